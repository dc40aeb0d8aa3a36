set_option maxHeartbeats 4000000 in
set_option maxRecDepth 100000 in
theorem law_case_0 {p : Program} {e : Env} {s : State} {m : MethodId} {below : List Frame} {meth : Method} {c : Code} (l : Launch) (hfl : l.stackTraces = false) {D : va_G} {cs : Nat → ClassId} {A : Nat → Prop} {b L : Nat} {xs : Nat → Int32} (C : xC p room_1 s m #[Value.ref b] meth c ⟨"SampleHouseLaw", meth.name, ""⟩ code 7 ret D cs A) (hTH : xTH s) (hZ0 : xZ A s s.heap) (hX : va_X b L xs s s.heap) (hbl : b < s.heap.size) (hbA : ¬ A b) {h0 hm out i : Nat} (hL : L ≤ 2560) (hi : i + 5 ≤ L) (hnext : LawAt p l e s m below meth c D cs A b h0 hm out (i + 5)) {n k al be en : Nat} {ea pr : Int32} {cN : Nat → Nat} {cI : Nat → Int32} {cF : Nat → Nat → Int32} {cG : Nat → Nat → Nat → Int32} {cP : Nat → Nat → Nat → Int32} {cQ : Nat → Nat → Nat → Int32} {mN : Nat → Nat} {mI : Nat → Int32} {mF : Nat → Nat → Int32} {pot potm : Nat} {w wm : va_W} {og : Nat → Int64} (hG : GP n k al be en) (hR : RelB n be en ea pr cN cI cF cG cP cQ mN mI mF) (hO : OkM mN mF) (hV : RelS n k al be pr (1 + i) cN cI cG mF) (hw : CW cs h0 n k al be en ea pr cN cI cF cG cP cQ pot w) (hmw : MW cs hm n k al be en ea pr mN mI mF potm wm) {H : Heap} {locs : List Loc} {ls : Array Slot} (hP : va_P D vwCl (w ++ (wm ++ [(out, .inl (cs 1, 1, .inr (.inl og)))])) H) (hD : va_D A (w ++ (wm ++ [(out, .inl (cs 1, 1, .inr (.inl og)))]))) (hS : va_S A s.heap H locs) (hl : lv_has ls 7 [(4, .int (nI i)), (3, .ref out), (2, .ref hm), (1, .ref h0), (0, .ref b)]) : W p l e room_1 s m #[Value.ref b] below meth c H locs (300 + 120 * i) ((20000 + 300 * i + potm) + pot) (lw_Z below #[Value.ref b] s) (F0 m 156 ls []) := by
  have hx := C.1
  have hb := C.2.1
  have hz := C.2.2.2.2.1
  have hown := C.2.2.2.1
  have hA := C.2.2.2.2.2.2.2.2.2
  have hpot := hw.pot
  have hpotm := hmw.pot
  refine lv_aload_n hx hb dL_law_156 rfl (lv_at hl 3 rfl) ?_
  refine lv_aload_n hx hb dL_law_157 rfl (lv_at hl 4 rfl) ?_
  refine lv_iload hx hb dL_law_158 (lv_at hl 0 rfl) ?_
  refine lv_iconst (v := nI 1) hx hb dL_law_160 (by decide) ?_
  refine lv_iadd hx hb dL_law_161 ?_
  refine lv_topi (nm_r (e' := nI (i + 1)) (nI_add _ _) ?_)
  refine va_sld hx hb hX hbl hbA hS (pk_in (i + 1) L (by omega)) dL_law_162 ?_
  refine lv_topi (nm_r (e' := xs (i + 1)) (by rw [nI_clamp (by omega)]) ?_)
  refine lv_aload_n hx hb dL_law_163 rfl (lv_at hl 4 rfl) ?_
  refine lv_iload hx hb dL_law_164 (lv_at hl 0 rfl) ?_
  refine lv_iconst (v := nI 2) hx hb dL_law_166 (by decide) ?_
  refine lv_iadd hx hb dL_law_167 ?_
  refine lv_topi (nm_r (e' := nI (i + 2)) (nI_add _ _) ?_)
  refine va_sld hx hb hX hbl hbA hS (pk_in (i + 2) L (by omega)) dL_law_168 ?_
  refine lv_topi (nm_r (e' := xs (i + 2)) (by rw [nI_clamp (by omega)]) ?_)
  refine lv_aload_n hx hb dL_law_169 rfl (lv_at hl 4 rfl) ?_
  refine lv_iload hx hb dL_law_170 (lv_at hl 0 rfl) ?_
  refine lv_iconst (v := nI 3) hx hb dL_law_172 (by decide) ?_
  refine lv_iadd hx hb dL_law_173 ?_
  refine lv_topi (nm_r (e' := nI (i + 3)) (nI_add _ _) ?_)
  refine va_sld hx hb hX hbl hbA hS (pk_in (i + 3) L (by omega)) dL_law_174 ?_
  refine lv_topi (nm_r (e' := xs (i + 3)) (by rw [nI_clamp (by omega)]) ?_)
  refine lv_aload_n hx hb dL_law_175 rfl (lv_at hl 4 rfl) ?_
  refine lv_iload hx hb dL_law_176 (lv_at hl 0 rfl) ?_
  refine lv_iconst (v := nI 4) hx hb dL_law_178 (by decide) ?_
  refine lv_iadd hx hb dL_law_179 ?_
  refine lv_topi (nm_r (e' := nI (i + 4)) (nI_add _ _) ?_)
  refine va_sld hx hb hX hbl hbA hS (pk_in (i + 4) L (by omega)) dL_law_180 ?_
  refine lv_topi (nm_r (e' := xs (i + 4)) (by rw [nI_clamp (by omega)]) ?_)
  refine law_i (sl := (20000 + 300 * i + potm)) (wr := (wm ++ [(out, .inl (cs 1, 1, .inr (.inl og)))])) (ci := 11) (As := [.int (xs (i + 1)), .int (xs (i + 2)), .int (xs (i + 3)), .int (xs (i + 4))]) (rest := []) C (k_X11_group hG (xs (i + 1)) (xs (i + 2)) (xs (i + 3)) (xs (i + 4)) hw) kL_22 hP hD hS (CW.mem hw) rfl rfl (by decide) ⟨Nat.le_of_ble_eq_true rfl, Nat.le_of_ble_eq_true rfl⟩ ⟨by show _ ≤ 601024; omega, by show _ ≤ 7293034; omega⟩ rfl hl.1 rfl (Nat.le_of_ble_eq_true rfl) dL_law_181 ?_
  clear hP hD hS
  try clear locs
  try clear H
  intro r_1 w_2 pot_3 H locs hp_4 hP hD hS
  refine W.widen (k := 300 + 120 * i + 200) (n := (20000 + 300 * i + 500 + potm) + pot_3) (by omega) (by omega) ?_
  obtain ⟨cN_5, cI_6, cF_7, cG_8, cP_9, cQ_10, hq_11⟩ := hp_4
  have hb_12 : pot_3 ≤ 72000 := by rcases hq_11 with ⟨_, _, _, _, _, _, _, _, _, _, _, _, _, z⟩ | ⟨_, _, _, z⟩ <;> exact z.pot
  refine lv_pop hx hb dL_law_184 rfl ?_
  refine lv_aload_n hx hb dL_law_185 rfl (lv_at hl 2 rfl) ?_
  refine lv_aload_n hx hb dL_law_186 rfl (lv_at hl 4 rfl) ?_
  refine lv_iload hx hb dL_law_187 (lv_at hl 0 rfl) ?_
  refine lv_iconst (v := nI 1) hx hb dL_law_189 (by decide) ?_
  refine lv_iadd hx hb dL_law_190 ?_
  refine lv_topi (nm_r (e' := nI (i + 1)) (nI_add _ _) ?_)
  refine va_sld hx hb hX hbl hbA hS (pk_in (i + 1) L (by omega)) dL_law_191 ?_
  refine lv_topi (nm_r (e' := xs (i + 1)) (by rw [nI_clamp (by omega)]) ?_)
  refine lv_aload_n hx hb dL_law_192 rfl (lv_at hl 4 rfl) ?_
  refine lv_iload hx hb dL_law_193 (lv_at hl 0 rfl) ?_
  refine lv_iconst (v := nI 2) hx hb dL_law_195 (by decide) ?_
  refine lv_iadd hx hb dL_law_196 ?_
  refine lv_topi (nm_r (e' := nI (i + 2)) (nI_add _ _) ?_)
  refine va_sld hx hb hX hbl hbA hS (pk_in (i + 2) L (by omega)) dL_law_197 ?_
  refine lv_topi (nm_r (e' := xs (i + 2)) (by rw [nI_clamp (by omega)]) ?_)
  refine lv_aload_n hx hb dL_law_198 rfl (lv_at hl 4 rfl) ?_
  refine lv_iload hx hb dL_law_199 (lv_at hl 0 rfl) ?_
  refine lv_iconst (v := nI 3) hx hb dL_law_201 (by decide) ?_
  refine lv_iadd hx hb dL_law_202 ?_
  refine lv_topi (nm_r (e' := nI (i + 3)) (nI_add _ _) ?_)
  refine va_sld hx hb hX hbl hbA hS (pk_in (i + 3) L (by omega)) dL_law_203 ?_
  refine lv_topi (nm_r (e' := xs (i + 3)) (by rw [nI_clamp (by omega)]) ?_)
  refine lv_aload_n hx hb dL_law_204 rfl (lv_at hl 4 rfl) ?_
  refine lv_iload hx hb dL_law_205 (lv_at hl 0 rfl) ?_
  refine lv_iconst (v := nI 4) hx hb dL_law_207 (by decide) ?_
  refine lv_iadd hx hb dL_law_208 ?_
  refine lv_topi (nm_r (e' := nI (i + 4)) (nI_add _ _) ?_)
  refine va_sld hx hb hX hbl hbA hS (pk_in (i + 4) L (by omega)) dL_law_209 ?_
  refine lv_topi (nm_r (e' := xs (i + 4)) (by rw [nI_clamp (by omega)]) ?_)
  replace hP := pP_perm permSwap hP
  replace hD := pD_perm permSwap hD
  refine W.widen (k := 300 + 120 * i + 200) (n := (20000 + 300 * i + 500 + pot_3) + potm) (by omega) (by omega) ?_
  refine law_i (sl := (20000 + 300 * i + 500 + pot_3)) (wr := (w_2 ++ [(out, .inl (cs 1, 1, .inr (.inl og)))])) (ci := 12) (As := [.int (xs (i + 1)), .int (xs (i + 2)), .int (xs (i + 3)), .int (xs (i + 4))]) (rest := []) C (k_X12_group hG (xs (i + 1)) (xs (i + 2)) (xs (i + 3)) (xs (i + 4)) hmw) kL_26 hP hD hS (MW.mem hmw) rfl rfl (by decide) ⟨Nat.le_of_ble_eq_true rfl, Nat.le_of_ble_eq_true rfl⟩ ⟨by show _ ≤ 601024; omega, by show _ ≤ 7293034; omega⟩ rfl hl.1 rfl (Nat.le_of_ble_eq_true rfl) dL_law_210 ?_
  clear hP hD hS
  try clear locs
  try clear H
  intro r_13 w_14 pot_15 H locs hp_16 hP hD hS
  replace hP := pP_perm permSwap hP
  replace hD := pD_perm permSwap hD
  refine W.widen (k := 300 + 120 * i + 200 + 200) (n := (20000 + 300 * i + 500 + 500 + pot_15) + pot_3) (by omega) (by omega) ?_
  obtain ⟨mN_17, mI_18, mF_19, hq_20⟩ := hp_16
  have hb_21 : pot_15 ≤ 213000 := by rcases hq_20 with ⟨_, _, _, _, _, _, _, _, _, _, _, _, z⟩ | ⟨_, _, _, z⟩ <;> exact z.pot
  rcases hq_11 with ⟨hf1, e1, n2, k2, al2, be2, hG2, a1, a2, a3, a4, hfc, hfd, hw2⟩ | ⟨hf1, e1, hfc, hw2⟩
  · rcases hq_20 with ⟨hf2, e2, n3, k3, al3, be3, hG3, b1, b2, b3, b4, hfm, hm2⟩ | ⟨hf2, e2, hfm, hm2⟩
    · -- both take it
      obtain rfl : n3 = n2 := by
        have z8 := hG2.1; have z7 := hG3.1; have z6 := hG2.2.1; have z5 := hG3.2.1; have z4 := hG2.2.2.1; have z3 := hG3.2.2.1; have z2 := hG2.2.2.2.1; have z1 := hG3.2.2.2.1
        exact (nI_eq (by omega) (by omega)).mp (b1.symm.trans a1)
      obtain rfl : k3 = k2 := by
        have z8 := hG2.1; have z7 := hG3.1; have z6 := hG2.2.1; have z5 := hG3.2.1; have z4 := hG2.2.2.1; have z3 := hG3.2.2.1; have z2 := hG2.2.2.2.1; have z1 := hG3.2.2.2.1
        exact (nI_eq (by omega) (by omega)).mp (b2.symm.trans a2)
      obtain rfl : al3 = al2 := by
        have z8 := hG2.1; have z7 := hG3.1; have z6 := hG2.2.1; have z5 := hG3.2.1; have z4 := hG2.2.2.1; have z3 := hG3.2.2.1; have z2 := hG2.2.2.2.1; have z1 := hG3.2.2.2.1
        exact (nI_eq (by omega) (by omega)).mp (b3.symm.trans a3)
      obtain rfl : be3 = be2 := by
        have z8 := hG2.1; have z7 := hG3.1; have z6 := hG2.2.1; have z5 := hG3.2.1; have z4 := hG2.2.2.1; have z3 := hG3.2.2.1; have z2 := hG2.2.2.2.1; have z1 := hG3.2.2.2.1
        exact (nI_eq (by omega) (by omega)).mp (b4.symm.trans a4)
      have hR9 := hR.fresh (n2 := n3) hG2.2.2.2.1 hfc hfm
      have hO9 : OkM mN_17 mF_19 := ⟨by rw [hfm.2.1]; exact okF.fresh, fun r hr => by have := hfm.1; omega⟩
      have hV9 := RelS.fresh (n2 := n3) (k2 := k3) (al2 := al3) (be2 := be3) (mF2 := mF_19) hV hfd
      refine lv_pop hx hb dL_law_213 rfl ?_
      refine lv_goto (tgt := 1140) hx hb dL_law_214 (by decide) ?_
      refine lv_iinc (v := nI (i + 5)) (lv' := [(4, .int (nI (i + 5))), (3, .ref out), (2, .ref hm), (1, .ref h0), (0, .ref b)]) hx hb dL_law_1140 hl (k := 0) rfl (nI_add i 5) (by decide) rfl ?_
      clear hl
      try clear ls
      intro ls hl
      refine lv_goto (tgt := 23) hx hb dL_law_1143 (by decide) ?_
      exact W.widen (by omega) (by omega) (hnext n3 k3 al3 be3 0 (mnE ea be3) pr cN_5 cI_6 cF_7 cG_8 cP_9 cQ_10 mN_17 mI_18 mF_19 pot_3 pot_15 w_2 w_14 og _ _ _ hG2 hR9 hO9 (hV9.mono (by omega)) hw2 hm2 hP hD hS (lv_sub hl [0, 1, 2, 3, 4] rfl))
    · exact absurd hf1 hf2
  · rcases hq_20 with ⟨hf2, e2, n3, k3, al3, be3, hG3, b1, b2, b3, b4, hfm, hm2⟩ | ⟨hf2, e2, hfm, hm2⟩
    · exact absurd hf2 hf1
    · -- both refuse it
      have hR9 := hR.same hfc.1 hfc.2.1 hfc.2.2.1 hfc.2.2.2.1 hfc.2.2.2.2.1 hfc.2.2.2.2.2.1 hfc.2.2.2.2.2.2.1 hfc.2.2.2.2.2.2.2.1 hfc.2.2.2.2.2.2.2.2.1 hfc.2.2.2.2.2.2.2.2.2.1 hfc.2.2.2.2.2.2.2.2.2.2.1 hfc.2.2.2.2.2.2.2.2.2.2.2.1 hfc.2.2.2.2.2.2.2.2.2.2.2.2.1 hfc.2.2.2.2.2.2.2.2.2.2.2.2.2.1 hfc.2.2.2.2.2.2.2.2.2.2.2.2.2.2.1 hfc.2.2.2.2.2.2.2.2.2.2.2.2.2.2.2.2.1 hfc.2.2.2.2.2.2.2.2.2.2.2.2.2.2.2.2.2.1 hfc.2.2.2.2.2.2.2.2.2.2.2.2.2.2.2.2.2.2.1 hfm.1 hfm.2.1 hfm.2.2.1 (fun j _ => congrFun hfm.2.2.2.1 j) hfm.2.2.2.2.1 hfm.2.2.2.2.2.1 hfm.2.2.2.2.2.2.1 hfm.2.2.2.2.2.2.2.1 hfm.2.2.2.2.2.2.2.2.1 hfm.2.2.2.2.2.2.2.2.2
      have hO9 := hO.same hfm.1 (fun j _ => congrFun hfm.2.2.2.1 j) hfm.2.2.2.2.1
      have hV9 := hV.up (pr2 := pr) hfc.2.2.2.2.2.2.2.2.2.2.2.2.2.2.2.2.2.2.2.1 hfc.2.2.2.2.2.2.2.2.2.2.2.2.2.2.2.2.2.2.2.2.1 hfc.2.2.2.2.2.2.2.2.2.2.2.2.2.2.2.2.2.2.2.2.2.2.1 hfc.2.2.2.2.2.2.2.2.2.2.2.2.2.2.2.2.2.2.2.2.2.2.2 (Or.inl ⟨hfc.2.2.2.2.2.2.2.2.2.2.2.2.2.2.2.2.2.2.2.2.2.1, lowQ.of hfm.2.2.2.1, rfl⟩)
      refine lv_pop hx hb dL_law_213 rfl ?_
      refine lv_goto (tgt := 1140) hx hb dL_law_214 (by decide) ?_
      refine lv_iinc (v := nI (i + 5)) (lv' := [(4, .int (nI (i + 5))), (3, .ref out), (2, .ref hm), (1, .ref h0), (0, .ref b)]) hx hb dL_law_1140 hl (k := 0) rfl (nI_add i 5) (by decide) rfl ?_
      clear hl
      try clear ls
      intro ls hl
      refine lv_goto (tgt := 23) hx hb dL_law_1143 (by decide) ?_
      exact W.widen (by omega) (by omega) (hnext n k al be en ea pr cN_5 cI_6 cF_7 cG_8 cP_9 cQ_10 mN_17 mI_18 mF_19 pot_3 pot_15 w_2 w_14 og _ _ _ hG hR9 hO9 (hV9.mono (by omega)) hw2 hm2 hP hD hS (lv_sub hl [0, 1, 2, 3, 4] rfl))

set_option maxHeartbeats 4000000 in
set_option maxRecDepth 100000 in
theorem law_case_1 {p : Program} {e : Env} {s : State} {m : MethodId} {below : List Frame} {meth : Method} {c : Code} (l : Launch) (hfl : l.stackTraces = false) {D : va_G} {cs : Nat → ClassId} {A : Nat → Prop} {b L : Nat} {xs : Nat → Int32} (C : xC p room_1 s m #[Value.ref b] meth c ⟨"SampleHouseLaw", meth.name, ""⟩ code 7 ret D cs A) (hTH : xTH s) (hZ0 : xZ A s s.heap) (hX : va_X b L xs s s.heap) (hbl : b < s.heap.size) (hbA : ¬ A b) {h0 hm out i : Nat} (hL : L ≤ 2560) (hi : i + 5 ≤ L) (hnext : LawAt p l e s m below meth c D cs A b h0 hm out (i + 5)) {n k al be en : Nat} {ea pr : Int32} {cN : Nat → Nat} {cI : Nat → Int32} {cF : Nat → Nat → Int32} {cG : Nat → Nat → Nat → Int32} {cP : Nat → Nat → Nat → Int32} {cQ : Nat → Nat → Nat → Int32} {mN : Nat → Nat} {mI : Nat → Int32} {mF : Nat → Nat → Int32} {pot potm : Nat} {w wm : va_W} {og : Nat → Int64} (hG : GP n k al be en) (hR : RelB n be en ea pr cN cI cF cG cP cQ mN mI mF) (hO : OkM mN mF) (hV : RelS n k al be pr (1 + i) cN cI cG mF) (hw : CW cs h0 n k al be en ea pr cN cI cF cG cP cQ pot w) (hmw : MW cs hm n k al be en ea pr mN mI mF potm wm) {H : Heap} {locs : List Loc} {ls : Array Slot} (hP : va_P D vwCl (w ++ (wm ++ [(out, .inl (cs 1, 1, .inr (.inl og)))])) H) (hD : va_D A (w ++ (wm ++ [(out, .inl (cs 1, 1, .inr (.inl og)))]))) (hS : va_S A s.heap H locs) (hl : lv_has ls 7 [(4, .int (nI i)), (3, .ref out), (2, .ref hm), (1, .ref h0), (0, .ref b)]) : W p l e room_1 s m #[Value.ref b] below meth c H locs (300 + 120 * i) ((20000 + 300 * i + potm) + pot) (lw_Z below #[Value.ref b] s) (F0 m 217 ls []) := by
  have hx := C.1
  have hb := C.2.1
  have hz := C.2.2.2.2.1
  have hown := C.2.2.2.1
  have hA := C.2.2.2.2.2.2.2.2.2
  have hpot := hw.pot
  have hpotm := hmw.pot
  refine lv_aload_n hx hb dL_law_217 rfl (lv_at hl 3 rfl) ?_
  refine lv_aload_n hx hb dL_law_218 rfl (lv_at hl 4 rfl) ?_
  refine lv_iload hx hb dL_law_219 (lv_at hl 0 rfl) ?_
  refine lv_iconst (v := nI 1) hx hb dL_law_221 (by decide) ?_
  refine lv_iadd hx hb dL_law_222 ?_
  refine lv_topi (nm_r (e' := nI (i + 1)) (nI_add _ _) ?_)
  refine va_sld hx hb hX hbl hbA hS (pk_in (i + 1) L (by omega)) dL_law_223 ?_
  refine lv_topi (nm_r (e' := xs (i + 1)) (by rw [nI_clamp (by omega)]) ?_)
  refine law_i (sl := (20000 + 300 * i + potm)) (wr := (wm ++ [(out, .inl (cs 1, 1, .inr (.inl og)))])) (ci := 11) (As := [.int (xs (i + 1))]) (rest := []) C (k_X11_protocol hG (xs (i + 1)) hw) kL_27 hP hD hS (CW.mem hw) rfl rfl (by decide) ⟨Nat.le_of_ble_eq_true rfl, Nat.le_of_ble_eq_true rfl⟩ ⟨by show _ ≤ 601024; omega, by show _ ≤ 7293034; omega⟩ rfl hl.1 rfl (Nat.le_of_ble_eq_true rfl) dL_law_224 ?_
  clear hP hD hS
  try clear locs
  try clear H
  intro r_1 w_2 pot_3 H locs hp_4 hP hD hS
  refine W.widen (k := 300 + 120 * i + 200) (n := (20000 + 300 * i + 500 + potm) + pot_3) (by omega) (by omega) ?_
  obtain ⟨cN_9, cI_10, cF_11, cG_12, cP_13, cQ_14, prz_8, hm_5, he_6, hw_7⟩ := hp_4
  have hb_15 := CW.pot hw_7
  refine lv_pop hx hb dL_law_227 rfl ?_
  refine lv_aload_n hx hb dL_law_228 rfl (lv_at hl 2 rfl) ?_
  refine lv_aload_n hx hb dL_law_229 rfl (lv_at hl 4 rfl) ?_
  refine lv_iload hx hb dL_law_230 (lv_at hl 0 rfl) ?_
  refine lv_iconst (v := nI 1) hx hb dL_law_232 (by decide) ?_
  refine lv_iadd hx hb dL_law_233 ?_
  refine lv_topi (nm_r (e' := nI (i + 1)) (nI_add _ _) ?_)
  refine va_sld hx hb hX hbl hbA hS (pk_in (i + 1) L (by omega)) dL_law_234 ?_
  refine lv_topi (nm_r (e' := xs (i + 1)) (by rw [nI_clamp (by omega)]) ?_)
  replace hP := pP_perm permSwap hP
  replace hD := pD_perm permSwap hD
  refine W.widen (k := 300 + 120 * i + 200) (n := (20000 + 300 * i + 500 + pot_3) + potm) (by omega) (by omega) ?_
  refine law_i (sl := (20000 + 300 * i + 500 + pot_3)) (wr := (w_2 ++ [(out, .inl (cs 1, 1, .inr (.inl og)))])) (ci := 12) (As := [.int (xs (i + 1))]) (rest := []) C (k_X12_protocol hG (xs (i + 1)) hmw) kL_31 hP hD hS (MW.mem hmw) rfl rfl (by decide) ⟨Nat.le_of_ble_eq_true rfl, Nat.le_of_ble_eq_true rfl⟩ ⟨by show _ ≤ 601024; omega, by show _ ≤ 7293034; omega⟩ rfl hl.1 rfl (Nat.le_of_ble_eq_true rfl) dL_law_235 ?_
  clear hP hD hS
  try clear locs
  try clear H
  intro r_16 w_17 pot_18 H locs hp_19 hP hD hS
  replace hP := pP_perm permSwap hP
  replace hD := pD_perm permSwap hD
  refine W.widen (k := 300 + 120 * i + 200 + 200) (n := (20000 + 300 * i + 500 + 500 + pot_18) + pot_3) (by omega) (by omega) ?_
  obtain ⟨mN_24, mI_25, mF_26, prz_23, hm_20, he_21, hw_22⟩ := hp_19
  have hO_28 := hO.same he_21.1 (fun j _ => congrFun he_21.2.2.2.1 j) he_21.2.2.2.2.1
  have hR_30 := hR.prz (x := xs (i + 1)) ⟨fun z9 => pf1 (hm_5.2.1 z9), fun z9 => pf1 (hm_5.2.2 z9)⟩
  have hV_31 := hV.up (pr2 := prz_8) he_6.2.2.2.2.2.2.2.2.2.2.2.2.2.2.2.2.2.2.2.1 he_6.2.2.2.2.2.2.2.2.2.2.2.2.2.2.2.2.2.2.2.2.1 he_6.2.2.2.2.2.2.2.2.2.2.2.2.2.2.2.2.2.2.2.2.2.1 he_6.2.2.2.2.2.2.2.2.2.2.2.2.2.2.2.2.2.2.2.2.2.2 (by
    by_cases z9 : (¬ (xs (i + 1)) < 0 ∧ (xs (i + 1)) ≤ nI 2)
    · exact Or.inr (pf2 (hm_5.2.1 z9))
    · exact Or.inl ⟨pf2 (hm_5.2.2 z9), (lowQ.of he_21.2.2.2.1), pf1 (hm_5.2.2 z9)⟩)
  obtain rfl : prz_23 = prz_8 := by
    by_cases z9 : (¬ (xs (i + 1)) < 0 ∧ (xs (i + 1)) ≤ nI 2)
    · exact (hm_20.2.1 z9).trans (pf1 (hm_5.2.1 z9)).symm
    · exact (hm_20.2.2 z9).trans (pf1 (hm_5.2.2 z9)).symm
  have hR_29 := hR_30.same he_6.1 he_6.2.1 he_6.2.2.1 he_6.2.2.2.1 he_6.2.2.2.2.1 he_6.2.2.2.2.2.1 he_6.2.2.2.2.2.2.1 he_6.2.2.2.2.2.2.2.1 he_6.2.2.2.2.2.2.2.2.1 he_6.2.2.2.2.2.2.2.2.2.1 he_6.2.2.2.2.2.2.2.2.2.2.1 he_6.2.2.2.2.2.2.2.2.2.2.2.1 he_6.2.2.2.2.2.2.2.2.2.2.2.2.1 he_6.2.2.2.2.2.2.2.2.2.2.2.2.2.1 he_6.2.2.2.2.2.2.2.2.2.2.2.2.2.2.1 he_6.2.2.2.2.2.2.2.2.2.2.2.2.2.2.2.2.1 he_6.2.2.2.2.2.2.2.2.2.2.2.2.2.2.2.2.2.1 he_6.2.2.2.2.2.2.2.2.2.2.2.2.2.2.2.2.2.2.1 he_21.1 he_21.2.1 he_21.2.2.1 (fun j _ => congrFun he_21.2.2.2.1 j) he_21.2.2.2.2.1 he_21.2.2.2.2.2.1 he_21.2.2.2.2.2.2.1 he_21.2.2.2.2.2.2.2.1 he_21.2.2.2.2.2.2.2.2.1 he_21.2.2.2.2.2.2.2.2.2
  have hb_32 := MW.pot hw_22
  refine lv_pop hx hb dL_law_238 rfl ?_
  refine lv_goto (tgt := 1140) hx hb dL_law_239 (by decide) ?_
  refine lv_iinc (v := nI (i + 5)) (lv' := [(4, .int (nI (i + 5))), (3, .ref out), (2, .ref hm), (1, .ref h0), (0, .ref b)]) hx hb dL_law_1140 hl (k := 0) rfl (nI_add i 5) (by decide) rfl ?_
  clear hl
  try clear ls
  intro ls hl
  refine lv_goto (tgt := 23) hx hb dL_law_1143 (by decide) ?_
  exact W.widen (by omega) (by omega) (hnext n k al be en ea prz_23 cN_9 cI_10 cF_11 cG_12 cP_13 cQ_14 mN_24 mI_25 mF_26 pot_3 pot_18 w_2 w_17 og _ _ _ hG hR_29 hO_28 (hV_31.mono (by omega)) hw_7 hw_22 hP hD hS (lv_sub hl [0, 1, 2, 3, 4] rfl))

set_option maxHeartbeats 4000000 in
set_option maxRecDepth 100000 in
theorem law_case_2 {p : Program} {e : Env} {s : State} {m : MethodId} {below : List Frame} {meth : Method} {c : Code} (l : Launch) (hfl : l.stackTraces = false) {D : va_G} {cs : Nat → ClassId} {A : Nat → Prop} {b L : Nat} {xs : Nat → Int32} (C : xC p room_1 s m #[Value.ref b] meth c ⟨"SampleHouseLaw", meth.name, ""⟩ code 7 ret D cs A) (hTH : xTH s) (hZ0 : xZ A s s.heap) (hX : va_X b L xs s s.heap) (hbl : b < s.heap.size) (hbA : ¬ A b) {h0 hm out i : Nat} (hL : L ≤ 2560) (hi : i + 5 ≤ L) (hnext : LawAt p l e s m below meth c D cs A b h0 hm out (i + 5)) {n k al be en : Nat} {ea pr : Int32} {cN : Nat → Nat} {cI : Nat → Int32} {cF : Nat → Nat → Int32} {cG : Nat → Nat → Nat → Int32} {cP : Nat → Nat → Nat → Int32} {cQ : Nat → Nat → Nat → Int32} {mN : Nat → Nat} {mI : Nat → Int32} {mF : Nat → Nat → Int32} {pot potm : Nat} {w wm : va_W} {og : Nat → Int64} (hG : GP n k al be en) (hR : RelB n be en ea pr cN cI cF cG cP cQ mN mI mF) (hO : OkM mN mF) (hV : RelS n k al be pr (1 + i) cN cI cG mF) (hw : CW cs h0 n k al be en ea pr cN cI cF cG cP cQ pot w) (hmw : MW cs hm n k al be en ea pr mN mI mF potm wm) {H : Heap} {locs : List Loc} {ls : Array Slot} (hP : va_P D vwCl (w ++ (wm ++ [(out, .inl (cs 1, 1, .inr (.inl og)))])) H) (hD : va_D A (w ++ (wm ++ [(out, .inl (cs 1, 1, .inr (.inl og)))]))) (hS : va_S A s.heap H locs) (hl : lv_has ls 7 [(4, .int (nI i)), (3, .ref out), (2, .ref hm), (1, .ref h0), (0, .ref b)]) : W p l e room_1 s m #[Value.ref b] below meth c H locs (300 + 120 * i) ((20000 + 300 * i + potm) + pot) (lw_Z below #[Value.ref b] s) (F0 m 242 ls []) := by
  have hx := C.1
  have hb := C.2.1
  have hz := C.2.2.2.2.1
  have hown := C.2.2.2.1
  have hA := C.2.2.2.2.2.2.2.2.2
  have hpot := hw.pot
  have hpotm := hmw.pot
  refine lv_aload_n hx hb dL_law_242 rfl (lv_at hl 3 rfl) ?_
  refine lv_aload_n hx hb dL_law_243 rfl (lv_at hl 4 rfl) ?_
  refine lv_iload hx hb dL_law_244 (lv_at hl 0 rfl) ?_
  refine lv_iconst (v := nI 1) hx hb dL_law_246 (by decide) ?_
  refine lv_iadd hx hb dL_law_247 ?_
  refine lv_topi (nm_r (e' := nI (i + 1)) (nI_add _ _) ?_)
  refine va_sld hx hb hX hbl hbA hS (pk_in (i + 1) L (by omega)) dL_law_248 ?_
  refine lv_topi (nm_r (e' := xs (i + 1)) (by rw [nI_clamp (by omega)]) ?_)
  refine law_i (sl := (20000 + 300 * i + potm)) (wr := (wm ++ [(out, .inl (cs 1, 1, .inr (.inl og)))])) (ci := 11) (As := [.int (xs (i + 1))]) (rest := []) C (k_X11_early hG (xs (i + 1)) hw) kL_32 hP hD hS (CW.mem hw) rfl rfl (by decide) ⟨Nat.le_of_ble_eq_true rfl, Nat.le_of_ble_eq_true rfl⟩ ⟨by show _ ≤ 601024; omega, by show _ ≤ 7293034; omega⟩ rfl hl.1 rfl (Nat.le_of_ble_eq_true rfl) dL_law_249 ?_
  clear hP hD hS
  try clear locs
  try clear H
  intro r_1 w_2 pot_3 H locs hp_4 hP hD hS
  refine W.widen (k := 300 + 120 * i + 200) (n := (20000 + 300 * i + 500 + potm) + pot_3) (by omega) (by omega) ?_
  obtain ⟨cN_9, cI_10, cF_11, cG_12, cP_13, cQ_14, eaz_8, hm_5, he_6, hw_7⟩ := hp_4
  have hb_15 := CW.pot hw_7
  refine lv_pop hx hb dL_law_252 rfl ?_
  refine lv_aload_n hx hb dL_law_253 rfl (lv_at hl 2 rfl) ?_
  refine lv_aload_n hx hb dL_law_254 rfl (lv_at hl 4 rfl) ?_
  refine lv_iload hx hb dL_law_255 (lv_at hl 0 rfl) ?_
  refine lv_iconst (v := nI 1) hx hb dL_law_257 (by decide) ?_
  refine lv_iadd hx hb dL_law_258 ?_
  refine lv_topi (nm_r (e' := nI (i + 1)) (nI_add _ _) ?_)
  refine va_sld hx hb hX hbl hbA hS (pk_in (i + 1) L (by omega)) dL_law_259 ?_
  refine lv_topi (nm_r (e' := xs (i + 1)) (by rw [nI_clamp (by omega)]) ?_)
  replace hP := pP_perm permSwap hP
  replace hD := pD_perm permSwap hD
  refine W.widen (k := 300 + 120 * i + 200) (n := (20000 + 300 * i + 500 + pot_3) + potm) (by omega) (by omega) ?_
  refine law_i (sl := (20000 + 300 * i + 500 + pot_3)) (wr := (w_2 ++ [(out, .inl (cs 1, 1, .inr (.inl og)))])) (ci := 12) (As := [.int (xs (i + 1))]) (rest := []) C (k_X12_early hG (xs (i + 1)) hmw) kL_35 hP hD hS (MW.mem hmw) rfl rfl (by decide) ⟨Nat.le_of_ble_eq_true rfl, Nat.le_of_ble_eq_true rfl⟩ ⟨by show _ ≤ 601024; omega, by show _ ≤ 7293034; omega⟩ rfl hl.1 rfl (Nat.le_of_ble_eq_true rfl) dL_law_260 ?_
  clear hP hD hS
  try clear locs
  try clear H
  intro r_16 w_17 pot_18 H locs hp_19 hP hD hS
  replace hP := pP_perm permSwap hP
  replace hD := pD_perm permSwap hD
  refine W.widen (k := 300 + 120 * i + 200 + 200) (n := (20000 + 300 * i + 500 + 500 + pot_18) + pot_3) (by omega) (by omega) ?_
  obtain ⟨mN_24, mI_25, mF_26, eaz_23, hm_20, he_21, hw_22⟩ := hp_19
  have hO_28 := hO.same he_21.1 (fun j _ => congrFun he_21.2.2.2.1 j) he_21.2.2.2.2.1
  have hV_31 := hV.up (pr2 := pr) he_6.2.2.2.2.2.2.2.2.2.2.2.2.2.2.2.2.2.2.2.1 he_6.2.2.2.2.2.2.2.2.2.2.2.2.2.2.2.2.2.2.2.2.1 he_6.2.2.2.2.2.2.2.2.2.2.2.2.2.2.2.2.2.2.2.2.2.2.1 he_6.2.2.2.2.2.2.2.2.2.2.2.2.2.2.2.2.2.2.2.2.2.2.2 (Or.inl ⟨he_6.2.2.2.2.2.2.2.2.2.2.2.2.2.2.2.2.2.2.2.2.2.1, (lowQ.of he_21.2.2.2.1), rfl⟩)
  have hR_30 := hR.eaz (x := xs (i + 1)) hm_5.2
  obtain rfl : eaz_23 = eaz_8 := by
    by_cases z9 : (¬ (xs (i + 1)) < nI 1 ∧ (xs (i + 1)) ≤ nI be)
    · exact (hm_20.2.1 z9).trans (hm_5.2.1 z9).symm
    · exact (hm_20.2.2 z9).trans (hm_5.2.2 z9).symm
  have hR_29 := hR_30.same he_6.1 he_6.2.1 he_6.2.2.1 he_6.2.2.2.1 he_6.2.2.2.2.1 he_6.2.2.2.2.2.1 he_6.2.2.2.2.2.2.1 he_6.2.2.2.2.2.2.2.1 he_6.2.2.2.2.2.2.2.2.1 he_6.2.2.2.2.2.2.2.2.2.1 he_6.2.2.2.2.2.2.2.2.2.2.1 he_6.2.2.2.2.2.2.2.2.2.2.2.1 he_6.2.2.2.2.2.2.2.2.2.2.2.2.1 he_6.2.2.2.2.2.2.2.2.2.2.2.2.2.1 he_6.2.2.2.2.2.2.2.2.2.2.2.2.2.2.1 he_6.2.2.2.2.2.2.2.2.2.2.2.2.2.2.2.2.1 he_6.2.2.2.2.2.2.2.2.2.2.2.2.2.2.2.2.2.1 he_6.2.2.2.2.2.2.2.2.2.2.2.2.2.2.2.2.2.2.1 he_21.1 he_21.2.1 he_21.2.2.1 (fun j _ => congrFun he_21.2.2.2.1 j) he_21.2.2.2.2.1 he_21.2.2.2.2.2.1 he_21.2.2.2.2.2.2.1 he_21.2.2.2.2.2.2.2.1 he_21.2.2.2.2.2.2.2.2.1 he_21.2.2.2.2.2.2.2.2.2
  have hb_32 := MW.pot hw_22
  refine lv_pop hx hb dL_law_263 rfl ?_
  refine lv_goto (tgt := 1140) hx hb dL_law_264 (by decide) ?_
  refine lv_iinc (v := nI (i + 5)) (lv' := [(4, .int (nI (i + 5))), (3, .ref out), (2, .ref hm), (1, .ref h0), (0, .ref b)]) hx hb dL_law_1140 hl (k := 0) rfl (nI_add i 5) (by decide) rfl ?_
  clear hl
  try clear ls
  intro ls hl
  refine lv_goto (tgt := 23) hx hb dL_law_1143 (by decide) ?_
  exact W.widen (by omega) (by omega) (hnext n k al be en eaz_23 pr cN_9 cI_10 cF_11 cG_12 cP_13 cQ_14 mN_24 mI_25 mF_26 pot_3 pot_18 w_2 w_17 og _ _ _ hG hR_29 hO_28 (hV_31.mono (by omega)) hw_7 hw_22 hP hD hS (lv_sub hl [0, 1, 2, 3, 4] rfl))

set_option maxHeartbeats 4000000 in
set_option maxRecDepth 100000 in
theorem law_case_3 {p : Program} {e : Env} {s : State} {m : MethodId} {below : List Frame} {meth : Method} {c : Code} (l : Launch) (hfl : l.stackTraces = false) {D : va_G} {cs : Nat → ClassId} {A : Nat → Prop} {b L : Nat} {xs : Nat → Int32} (C : xC p room_1 s m #[Value.ref b] meth c ⟨"SampleHouseLaw", meth.name, ""⟩ code 7 ret D cs A) (hTH : xTH s) (hZ0 : xZ A s s.heap) (hX : va_X b L xs s s.heap) (hbl : b < s.heap.size) (hbA : ¬ A b) {h0 hm out i : Nat} (hL : L ≤ 2560) (hi : i + 5 ≤ L) (hnext : LawAt p l e s m below meth c D cs A b h0 hm out (i + 5)) {n k al be en : Nat} {ea pr : Int32} {cN : Nat → Nat} {cI : Nat → Int32} {cF : Nat → Nat → Int32} {cG : Nat → Nat → Nat → Int32} {cP : Nat → Nat → Nat → Int32} {cQ : Nat → Nat → Nat → Int32} {mN : Nat → Nat} {mI : Nat → Int32} {mF : Nat → Nat → Int32} {pot potm : Nat} {w wm : va_W} {og : Nat → Int64} (hG : GP n k al be en) (hR : RelB n be en ea pr cN cI cF cG cP cQ mN mI mF) (hO : OkM mN mF) (hV : RelS n k al be pr (1 + i) cN cI cG mF) (hw : CW cs h0 n k al be en ea pr cN cI cF cG cP cQ pot w) (hmw : MW cs hm n k al be en ea pr mN mI mF potm wm) {H : Heap} {locs : List Loc} {ls : Array Slot} (hP : va_P D vwCl (w ++ (wm ++ [(out, .inl (cs 1, 1, .inr (.inl og)))])) H) (hD : va_D A (w ++ (wm ++ [(out, .inl (cs 1, 1, .inr (.inl og)))]))) (hS : va_S A s.heap H locs) (hl : lv_has ls 7 [(4, .int (nI i)), (3, .ref out), (2, .ref hm), (1, .ref h0), (0, .ref b)]) : W p l e room_1 s m #[Value.ref b] below meth c H locs (300 + 120 * i) ((20000 + 300 * i + potm) + pot) (lw_Z below #[Value.ref b] s) (F0 m 267 ls []) := by
  have hx := C.1
  have hb := C.2.1
  have hz := C.2.2.2.2.1
  have hown := C.2.2.2.1
  have hA := C.2.2.2.2.2.2.2.2.2
  have hpot := hw.pot
  have hpotm := hmw.pot
  refine lv_aload_n hx hb dL_law_267 rfl (lv_at hl 3 rfl) ?_
  refine lv_aload_n hx hb dL_law_268 rfl (lv_at hl 4 rfl) ?_
  refine lv_iload hx hb dL_law_269 (lv_at hl 0 rfl) ?_
  refine lv_iconst (v := nI 1) hx hb dL_law_271 (by decide) ?_
  refine lv_iadd hx hb dL_law_272 ?_
  refine lv_topi (nm_r (e' := nI (i + 1)) (nI_add _ _) ?_)
  refine va_sld hx hb hX hbl hbA hS (pk_in (i + 1) L (by omega)) dL_law_273 ?_
  refine lv_topi (nm_r (e' := xs (i + 1)) (by rw [nI_clamp (by omega)]) ?_)
  refine lv_aload_n hx hb dL_law_274 rfl (lv_at hl 4 rfl) ?_
  refine lv_iload hx hb dL_law_275 (lv_at hl 0 rfl) ?_
  refine lv_iconst (v := nI 2) hx hb dL_law_277 (by decide) ?_
  refine lv_iadd hx hb dL_law_278 ?_
  refine lv_topi (nm_r (e' := nI (i + 2)) (nI_add _ _) ?_)
  refine va_sld hx hb hX hbl hbA hS (pk_in (i + 2) L (by omega)) dL_law_279 ?_
  refine lv_topi (nm_r (e' := xs (i + 2)) (by rw [nI_clamp (by omega)]) ?_)
  refine law_i (sl := (20000 + 300 * i + potm)) (wr := (wm ++ [(out, .inl (cs 1, 1, .inr (.inl og)))])) (ci := 11) (As := [.int (xs (i + 1)), .int (xs (i + 2))]) (rest := []) C (k_X11_kind hG (xs (i + 1)) (xs (i + 2)) hw) kL_36 hP hD hS (CW.mem hw) rfl rfl (by decide) ⟨Nat.le_of_ble_eq_true rfl, Nat.le_of_ble_eq_true rfl⟩ ⟨by show _ ≤ 601024; omega, by show _ ≤ 7293034; omega⟩ rfl hl.1 rfl (Nat.le_of_ble_eq_true rfl) dL_law_280 ?_
  clear hP hD hS
  try clear locs
  try clear H
  intro r_1 w_2 pot_3 H locs hp_4 hP hD hS
  refine W.widen (k := 300 + 120 * i + 200) (n := (20000 + 300 * i + 500 + potm) + pot_3) (by omega) (by omega) ?_
  obtain ⟨cN_8, cI_9, cF_10, cG_11, cP_12, cQ_13, hm_5, he_6, hw_7⟩ := hp_4
  have hb_14 := CW.pot hw_7
  refine lv_pop hx hb dL_law_283 rfl ?_
  refine lv_aload_n hx hb dL_law_284 rfl (lv_at hl 2 rfl) ?_
  refine lv_aload_n hx hb dL_law_285 rfl (lv_at hl 4 rfl) ?_
  refine lv_iload hx hb dL_law_286 (lv_at hl 0 rfl) ?_
  refine lv_iconst (v := nI 1) hx hb dL_law_288 (by decide) ?_
  refine lv_iadd hx hb dL_law_289 ?_
  refine lv_topi (nm_r (e' := nI (i + 1)) (nI_add _ _) ?_)
  refine va_sld hx hb hX hbl hbA hS (pk_in (i + 1) L (by omega)) dL_law_290 ?_
  refine lv_topi (nm_r (e' := xs (i + 1)) (by rw [nI_clamp (by omega)]) ?_)
  refine lv_aload_n hx hb dL_law_291 rfl (lv_at hl 4 rfl) ?_
  refine lv_iload hx hb dL_law_292 (lv_at hl 0 rfl) ?_
  refine lv_iconst (v := nI 2) hx hb dL_law_294 (by decide) ?_
  refine lv_iadd hx hb dL_law_295 ?_
  refine lv_topi (nm_r (e' := nI (i + 2)) (nI_add _ _) ?_)
  refine va_sld hx hb hX hbl hbA hS (pk_in (i + 2) L (by omega)) dL_law_296 ?_
  refine lv_topi (nm_r (e' := xs (i + 2)) (by rw [nI_clamp (by omega)]) ?_)
  replace hP := pP_perm permSwap hP
  replace hD := pD_perm permSwap hD
  refine W.widen (k := 300 + 120 * i + 200) (n := (20000 + 300 * i + 500 + pot_3) + potm) (by omega) (by omega) ?_
  refine law_i (sl := (20000 + 300 * i + 500 + pot_3)) (wr := (w_2 ++ [(out, .inl (cs 1, 1, .inr (.inl og)))])) (ci := 12) (As := [.int (xs (i + 1)), .int (xs (i + 2))]) (rest := []) C (k_X12_kind hG (xs (i + 1)) (xs (i + 2)) hmw) kL_40 hP hD hS (MW.mem hmw) rfl rfl (by decide) ⟨Nat.le_of_ble_eq_true rfl, Nat.le_of_ble_eq_true rfl⟩ ⟨by show _ ≤ 601024; omega, by show _ ≤ 7293034; omega⟩ rfl hl.1 rfl (Nat.le_of_ble_eq_true rfl) dL_law_297 ?_
  clear hP hD hS
  try clear locs
  try clear H
  intro r_15 w_16 pot_17 H locs hp_18 hP hD hS
  replace hP := pP_perm permSwap hP
  replace hD := pD_perm permSwap hD
  refine W.widen (k := 300 + 120 * i + 200 + 200) (n := (20000 + 300 * i + 500 + 500 + pot_17) + pot_3) (by omega) (by omega) ?_
  obtain ⟨mN_22, mI_23, mF_24, hm_19, he_20, hw_21⟩ := hp_18
  have hO_26 := ok_kind hG hR hO hm_19 he_20
  have hb_hR_25 := br_kind hG hR hm_5 he_6 hm_19 he_20
  have hR_25 := hb_hR_25.1
  have hV_27 := hV.up he_6.2.2.2.2.2.2.2.2.2.2.2.2.2.2.1 he_6.2.2.2.2.2.2.2.2.2.2.2.2.2.2.2.1 he_6.2.2.2.2.2.2.2.2.2.2.2.2.2.2.2.2.1 he_6.2.2.2.2.2.2.2.2.2.2.2.2.2.2.2.2.2 (hb_hR_25.2.2.imp (fun q => ⟨q.1, q.2, rfl⟩) id)
  have hb_28 := MW.pot hw_21
  refine lv_pop hx hb dL_law_300 rfl ?_
  refine lv_goto (tgt := 1140) hx hb dL_law_301 (by decide) ?_
  refine lv_iinc (v := nI (i + 5)) (lv' := [(4, .int (nI (i + 5))), (3, .ref out), (2, .ref hm), (1, .ref h0), (0, .ref b)]) hx hb dL_law_1140 hl (k := 0) rfl (nI_add i 5) (by decide) rfl ?_
  clear hl
  try clear ls
  intro ls hl
  refine lv_goto (tgt := 23) hx hb dL_law_1143 (by decide) ?_
  exact W.widen (by omega) (by omega) (hnext n k al be en ea pr cN_8 cI_9 cF_10 cG_11 cP_12 cQ_13 mN_22 mI_23 mF_24 pot_3 pot_17 w_2 w_16 og _ _ _ hG hR_25 hO_26 (hV_27.mono (by omega)) hw_7 hw_21 hP hD hS (lv_sub hl [0, 1, 2, 3, 4] rfl))

set_option maxHeartbeats 4000000 in
set_option maxRecDepth 100000 in
theorem law_case_4 {p : Program} {e : Env} {s : State} {m : MethodId} {below : List Frame} {meth : Method} {c : Code} (l : Launch) (hfl : l.stackTraces = false) {D : va_G} {cs : Nat → ClassId} {A : Nat → Prop} {b L : Nat} {xs : Nat → Int32} (C : xC p room_1 s m #[Value.ref b] meth c ⟨"SampleHouseLaw", meth.name, ""⟩ code 7 ret D cs A) (hTH : xTH s) (hZ0 : xZ A s s.heap) (hX : va_X b L xs s s.heap) (hbl : b < s.heap.size) (hbA : ¬ A b) {h0 hm out i : Nat} (hL : L ≤ 2560) (hi : i + 5 ≤ L) (hnext : LawAt p l e s m below meth c D cs A b h0 hm out (i + 5)) {n k al be en : Nat} {ea pr : Int32} {cN : Nat → Nat} {cI : Nat → Int32} {cF : Nat → Nat → Int32} {cG : Nat → Nat → Nat → Int32} {cP : Nat → Nat → Nat → Int32} {cQ : Nat → Nat → Nat → Int32} {mN : Nat → Nat} {mI : Nat → Int32} {mF : Nat → Nat → Int32} {pot potm : Nat} {w wm : va_W} {og : Nat → Int64} (hG : GP n k al be en) (hR : RelB n be en ea pr cN cI cF cG cP cQ mN mI mF) (hO : OkM mN mF) (hV : RelS n k al be pr (1 + i) cN cI cG mF) (hw : CW cs h0 n k al be en ea pr cN cI cF cG cP cQ pot w) (hmw : MW cs hm n k al be en ea pr mN mI mF potm wm) {H : Heap} {locs : List Loc} {ls : Array Slot} (hP : va_P D vwCl (w ++ (wm ++ [(out, .inl (cs 1, 1, .inr (.inl og)))])) H) (hD : va_D A (w ++ (wm ++ [(out, .inl (cs 1, 1, .inr (.inl og)))]))) (hS : va_S A s.heap H locs) (hl : lv_has ls 7 [(4, .int (nI i)), (3, .ref out), (2, .ref hm), (1, .ref h0), (0, .ref b)]) : W p l e room_1 s m #[Value.ref b] below meth c H locs (300 + 120 * i) ((20000 + 300 * i + potm) + pot) (lw_Z below #[Value.ref b] s) (F0 m 304 ls []) := by
  have hx := C.1
  have hb := C.2.1
  have hz := C.2.2.2.2.1
  have hown := C.2.2.2.1
  have hA := C.2.2.2.2.2.2.2.2.2
  have hpot := hw.pot
  have hpotm := hmw.pot
  refine lv_aload_n hx hb dL_law_304 rfl (lv_at hl 3 rfl) ?_
  refine lv_aload_n hx hb dL_law_305 rfl (lv_at hl 4 rfl) ?_
  refine lv_iload hx hb dL_law_306 (lv_at hl 0 rfl) ?_
  refine lv_iconst (v := nI 1) hx hb dL_law_308 (by decide) ?_
  refine lv_iadd hx hb dL_law_309 ?_
  refine lv_topi (nm_r (e' := nI (i + 1)) (nI_add _ _) ?_)
  refine va_sld hx hb hX hbl hbA hS (pk_in (i + 1) L (by omega)) dL_law_310 ?_
  refine lv_topi (nm_r (e' := xs (i + 1)) (by rw [nI_clamp (by omega)]) ?_)
  refine lv_aload_n hx hb dL_law_311 rfl (lv_at hl 4 rfl) ?_
  refine lv_iload hx hb dL_law_312 (lv_at hl 0 rfl) ?_
  refine lv_iconst (v := nI 2) hx hb dL_law_314 (by decide) ?_
  refine lv_iadd hx hb dL_law_315 ?_
  refine lv_topi (nm_r (e' := nI (i + 2)) (nI_add _ _) ?_)
  refine va_sld hx hb hX hbl hbA hS (pk_in (i + 2) L (by omega)) dL_law_316 ?_
  refine lv_topi (nm_r (e' := xs (i + 2)) (by rw [nI_clamp (by omega)]) ?_)
  refine lv_aload_n hx hb dL_law_317 rfl (lv_at hl 4 rfl) ?_
  refine lv_iload hx hb dL_law_318 (lv_at hl 0 rfl) ?_
  refine lv_iconst (v := nI 3) hx hb dL_law_320 (by decide) ?_
  refine lv_iadd hx hb dL_law_321 ?_
  refine lv_topi (nm_r (e' := nI (i + 3)) (nI_add _ _) ?_)
  refine va_sld hx hb hX hbl hbA hS (pk_in (i + 3) L (by omega)) dL_law_322 ?_
  refine lv_topi (nm_r (e' := xs (i + 3)) (by rw [nI_clamp (by omega)]) ?_)
  refine lv_if_eq (tgt := 330) hx hb dL_law_323 (by decide) (fun c_1 => ?_) (fun c_1 => ?_)
  · -- 323 t
    refine lv_iconst (v := nI 0) hx hb dL_law_330 (by decide) ?_
    refine law_i (sl := (20000 + 300 * i + potm)) (wr := (wm ++ [(out, .inl (cs 1, 1, .inr (.inl og)))])) (ci := 11) (As := [.int (xs (i + 1)), .int (xs (i + 2)), .int (nI 0)]) (rest := []) C (k_X11_link hG (xs (i + 1)) (xs (i + 2)) (nI 0) hw) kL_41 hP hD hS (CW.mem hw) rfl rfl (by decide) ⟨Nat.le_of_ble_eq_true rfl, Nat.le_of_ble_eq_true rfl⟩ ⟨by show _ ≤ 601024; omega, by show _ ≤ 7293034; omega⟩ rfl hl.1 rfl (Nat.le_of_ble_eq_true rfl) dL_law_331 ?_
    clear hP hD hS
    try clear locs
    try clear H
    intro r_2 w_3 pot_4 H locs hp_5 hP hD hS
    refine W.widen (k := 300 + 120 * i + 200) (n := (20000 + 300 * i + 500 + potm) + pot_4) (by omega) (by omega) ?_
    obtain ⟨cN_9, cI_10, cF_11, cG_12, cP_13, cQ_14, hm_6, he_7, hw_8⟩ := hp_5
    have hb_15 := CW.pot hw_8
    refine lv_pop hx hb dL_law_334 rfl ?_
    refine lv_aload_n hx hb dL_law_335 rfl (lv_at hl 2 rfl) ?_
    refine lv_aload_n hx hb dL_law_336 rfl (lv_at hl 4 rfl) ?_
    refine lv_iload hx hb dL_law_337 (lv_at hl 0 rfl) ?_
    refine lv_iconst (v := nI 1) hx hb dL_law_339 (by decide) ?_
    refine lv_iadd hx hb dL_law_340 ?_
    refine lv_topi (nm_r (e' := nI (i + 1)) (nI_add _ _) ?_)
    refine va_sld hx hb hX hbl hbA hS (pk_in (i + 1) L (by omega)) dL_law_341 ?_
    refine lv_topi (nm_r (e' := xs (i + 1)) (by rw [nI_clamp (by omega)]) ?_)
    refine lv_aload_n hx hb dL_law_342 rfl (lv_at hl 4 rfl) ?_
    refine lv_iload hx hb dL_law_343 (lv_at hl 0 rfl) ?_
    refine lv_iconst (v := nI 2) hx hb dL_law_345 (by decide) ?_
    refine lv_iadd hx hb dL_law_346 ?_
    refine lv_topi (nm_r (e' := nI (i + 2)) (nI_add _ _) ?_)
    refine va_sld hx hb hX hbl hbA hS (pk_in (i + 2) L (by omega)) dL_law_347 ?_
    refine lv_topi (nm_r (e' := xs (i + 2)) (by rw [nI_clamp (by omega)]) ?_)
    refine lv_aload_n hx hb dL_law_348 rfl (lv_at hl 4 rfl) ?_
    refine lv_iload hx hb dL_law_349 (lv_at hl 0 rfl) ?_
    refine lv_iconst (v := nI 3) hx hb dL_law_351 (by decide) ?_
    refine lv_iadd hx hb dL_law_352 ?_
    refine lv_topi (nm_r (e' := nI (i + 3)) (nI_add _ _) ?_)
    refine va_sld hx hb hX hbl hbA hS (pk_in (i + 3) L (by omega)) dL_law_353 ?_
    refine lv_topi (nm_r (e' := xs (i + 3)) (by rw [nI_clamp (by omega)]) ?_)
    refine lv_if_eq (tgt := 361) hx hb dL_law_354 (by decide) (fun _ => ?_) (fun c => absurd c_1 c)
    refine lv_iconst (v := nI 0) hx hb dL_law_361 (by decide) ?_
    replace hP := pP_perm permSwap hP
    replace hD := pD_perm permSwap hD
    refine W.widen (k := 300 + 120 * i + 200) (n := (20000 + 300 * i + 500 + pot_4) + potm) (by omega) (by omega) ?_
    refine law_i (sl := (20000 + 300 * i + 500 + pot_4)) (wr := (w_3 ++ [(out, .inl (cs 1, 1, .inr (.inl og)))])) (ci := 12) (As := [.int (xs (i + 1)), .int (xs (i + 2)), .int (nI 0)]) (rest := []) C (k_X12_link hG (xs (i + 1)) (xs (i + 2)) (nI 0) hmw) kL_45 hP hD hS (MW.mem hmw) rfl rfl (by decide) ⟨Nat.le_of_ble_eq_true rfl, Nat.le_of_ble_eq_true rfl⟩ ⟨by show _ ≤ 601024; omega, by show _ ≤ 7293034; omega⟩ rfl hl.1 rfl (Nat.le_of_ble_eq_true rfl) dL_law_362 ?_
    clear hP hD hS
    try clear locs
    try clear H
    intro r_16 w_17 pot_18 H locs hp_19 hP hD hS
    replace hP := pP_perm permSwap hP
    replace hD := pD_perm permSwap hD
    refine W.widen (k := 300 + 120 * i + 200 + 200) (n := (20000 + 300 * i + 500 + 500 + pot_18) + pot_4) (by omega) (by omega) ?_
    obtain ⟨mN_23, mI_24, mF_25, hm_20, he_21, hw_22⟩ := hp_19
    have hO_27 := ok_link hG hR hO hm_20 he_21
    have hb_hR_26 := br_link hG hR hm_6 he_7 hm_20 he_21
    have hR_26 := hb_hR_26.1
    have hV_28 := hV.up he_7.2.2.2.2.2.2.2.2.2.2.2.2.2.2.1 he_7.2.2.2.2.2.2.2.2.2.2.2.2.2.2.2.1 he_7.2.2.2.2.2.2.2.2.2.2.2.2.2.2.2.2.1 he_7.2.2.2.2.2.2.2.2.2.2.2.2.2.2.2.2.2 (hb_hR_26.2.2.imp (fun q => ⟨q.1, q.2, rfl⟩) id)
    have hb_29 := MW.pot hw_22
    refine lv_pop hx hb dL_law_365 rfl ?_
    refine lv_goto (tgt := 1140) hx hb dL_law_366 (by decide) ?_
    refine lv_iinc (v := nI (i + 5)) (lv' := [(4, .int (nI (i + 5))), (3, .ref out), (2, .ref hm), (1, .ref h0), (0, .ref b)]) hx hb dL_law_1140 hl (k := 0) rfl (nI_add i 5) (by decide) rfl ?_
    clear hl
    try clear ls
    intro ls hl
    refine lv_goto (tgt := 23) hx hb dL_law_1143 (by decide) ?_
    exact W.widen (by omega) (by omega) (hnext n k al be en ea pr cN_9 cI_10 cF_11 cG_12 cP_13 cQ_14 mN_23 mI_24 mF_25 pot_4 pot_18 w_3 w_17 og _ _ _ hG hR_26 hO_27 (hV_28.mono (by omega)) hw_8 hw_22 hP hD hS (lv_sub hl [0, 1, 2, 3, 4] rfl))
  · -- 323 f
    refine lv_iconst (v := nI 1) hx hb dL_law_326 (by decide) ?_
    refine lv_goto (tgt := 331) hx hb dL_law_327 (by decide) ?_
    refine law_i (sl := (20000 + 300 * i + potm)) (wr := (wm ++ [(out, .inl (cs 1, 1, .inr (.inl og)))])) (ci := 11) (As := [.int (xs (i + 1)), .int (xs (i + 2)), .int (nI 1)]) (rest := []) C (k_X11_link hG (xs (i + 1)) (xs (i + 2)) (nI 1) hw) kL_41 hP hD hS (CW.mem hw) rfl rfl (by decide) ⟨Nat.le_of_ble_eq_true rfl, Nat.le_of_ble_eq_true rfl⟩ ⟨by show _ ≤ 601024; omega, by show _ ≤ 7293034; omega⟩ rfl hl.1 rfl (Nat.le_of_ble_eq_true rfl) dL_law_331 ?_
    clear hP hD hS
    try clear locs
    try clear H
    intro r_30 w_31 pot_32 H locs hp_33 hP hD hS
    refine W.widen (k := 300 + 120 * i + 200) (n := (20000 + 300 * i + 500 + potm) + pot_32) (by omega) (by omega) ?_
    obtain ⟨cN_37, cI_38, cF_39, cG_40, cP_41, cQ_42, hm_34, he_35, hw_36⟩ := hp_33
    have hb_43 := CW.pot hw_36
    refine lv_pop hx hb dL_law_334 rfl ?_
    refine lv_aload_n hx hb dL_law_335 rfl (lv_at hl 2 rfl) ?_
    refine lv_aload_n hx hb dL_law_336 rfl (lv_at hl 4 rfl) ?_
    refine lv_iload hx hb dL_law_337 (lv_at hl 0 rfl) ?_
    refine lv_iconst (v := nI 1) hx hb dL_law_339 (by decide) ?_
    refine lv_iadd hx hb dL_law_340 ?_
    refine lv_topi (nm_r (e' := nI (i + 1)) (nI_add _ _) ?_)
    refine va_sld hx hb hX hbl hbA hS (pk_in (i + 1) L (by omega)) dL_law_341 ?_
    refine lv_topi (nm_r (e' := xs (i + 1)) (by rw [nI_clamp (by omega)]) ?_)
    refine lv_aload_n hx hb dL_law_342 rfl (lv_at hl 4 rfl) ?_
    refine lv_iload hx hb dL_law_343 (lv_at hl 0 rfl) ?_
    refine lv_iconst (v := nI 2) hx hb dL_law_345 (by decide) ?_
    refine lv_iadd hx hb dL_law_346 ?_
    refine lv_topi (nm_r (e' := nI (i + 2)) (nI_add _ _) ?_)
    refine va_sld hx hb hX hbl hbA hS (pk_in (i + 2) L (by omega)) dL_law_347 ?_
    refine lv_topi (nm_r (e' := xs (i + 2)) (by rw [nI_clamp (by omega)]) ?_)
    refine lv_aload_n hx hb dL_law_348 rfl (lv_at hl 4 rfl) ?_
    refine lv_iload hx hb dL_law_349 (lv_at hl 0 rfl) ?_
    refine lv_iconst (v := nI 3) hx hb dL_law_351 (by decide) ?_
    refine lv_iadd hx hb dL_law_352 ?_
    refine lv_topi (nm_r (e' := nI (i + 3)) (nI_add _ _) ?_)
    refine va_sld hx hb hX hbl hbA hS (pk_in (i + 3) L (by omega)) dL_law_353 ?_
    refine lv_topi (nm_r (e' := xs (i + 3)) (by rw [nI_clamp (by omega)]) ?_)
    refine lv_if_eq (tgt := 361) hx hb dL_law_354 (by decide) (fun c => absurd c c_1) (fun _ => ?_)
    refine lv_iconst (v := nI 1) hx hb dL_law_357 (by decide) ?_
    refine lv_goto (tgt := 362) hx hb dL_law_358 (by decide) ?_
    replace hP := pP_perm permSwap hP
    replace hD := pD_perm permSwap hD
    refine W.widen (k := 300 + 120 * i + 200) (n := (20000 + 300 * i + 500 + pot_32) + potm) (by omega) (by omega) ?_
    refine law_i (sl := (20000 + 300 * i + 500 + pot_32)) (wr := (w_31 ++ [(out, .inl (cs 1, 1, .inr (.inl og)))])) (ci := 12) (As := [.int (xs (i + 1)), .int (xs (i + 2)), .int (nI 1)]) (rest := []) C (k_X12_link hG (xs (i + 1)) (xs (i + 2)) (nI 1) hmw) kL_45 hP hD hS (MW.mem hmw) rfl rfl (by decide) ⟨Nat.le_of_ble_eq_true rfl, Nat.le_of_ble_eq_true rfl⟩ ⟨by show _ ≤ 601024; omega, by show _ ≤ 7293034; omega⟩ rfl hl.1 rfl (Nat.le_of_ble_eq_true rfl) dL_law_362 ?_
    clear hP hD hS
    try clear locs
    try clear H
    intro r_44 w_45 pot_46 H locs hp_47 hP hD hS
    replace hP := pP_perm permSwap hP
    replace hD := pD_perm permSwap hD
    refine W.widen (k := 300 + 120 * i + 200 + 200) (n := (20000 + 300 * i + 500 + 500 + pot_46) + pot_32) (by omega) (by omega) ?_
    obtain ⟨mN_51, mI_52, mF_53, hm_48, he_49, hw_50⟩ := hp_47
    have hO_55 := ok_link hG hR hO hm_48 he_49
    have hb_hR_54 := br_link hG hR hm_34 he_35 hm_48 he_49
    have hR_54 := hb_hR_54.1
    have hV_56 := hV.up he_35.2.2.2.2.2.2.2.2.2.2.2.2.2.2.1 he_35.2.2.2.2.2.2.2.2.2.2.2.2.2.2.2.1 he_35.2.2.2.2.2.2.2.2.2.2.2.2.2.2.2.2.1 he_35.2.2.2.2.2.2.2.2.2.2.2.2.2.2.2.2.2 (hb_hR_54.2.2.imp (fun q => ⟨q.1, q.2, rfl⟩) id)
    have hb_57 := MW.pot hw_50
    refine lv_pop hx hb dL_law_365 rfl ?_
    refine lv_goto (tgt := 1140) hx hb dL_law_366 (by decide) ?_
    refine lv_iinc (v := nI (i + 5)) (lv' := [(4, .int (nI (i + 5))), (3, .ref out), (2, .ref hm), (1, .ref h0), (0, .ref b)]) hx hb dL_law_1140 hl (k := 0) rfl (nI_add i 5) (by decide) rfl ?_
    clear hl
    try clear ls
    intro ls hl
    refine lv_goto (tgt := 23) hx hb dL_law_1143 (by decide) ?_
    exact W.widen (by omega) (by omega) (hnext n k al be en ea pr cN_37 cI_38 cF_39 cG_40 cP_41 cQ_42 mN_51 mI_52 mF_53 pot_32 pot_46 w_31 w_45 og _ _ _ hG hR_54 hO_55 (hV_56.mono (by omega)) hw_36 hw_50 hP hD hS (lv_sub hl [0, 1, 2, 3, 4] rfl))

set_option maxHeartbeats 4000000 in
set_option maxRecDepth 100000 in
theorem law_case_5 {p : Program} {e : Env} {s : State} {m : MethodId} {below : List Frame} {meth : Method} {c : Code} (l : Launch) (hfl : l.stackTraces = false) {D : va_G} {cs : Nat → ClassId} {A : Nat → Prop} {b L : Nat} {xs : Nat → Int32} (C : xC p room_1 s m #[Value.ref b] meth c ⟨"SampleHouseLaw", meth.name, ""⟩ code 7 ret D cs A) (hTH : xTH s) (hZ0 : xZ A s s.heap) (hX : va_X b L xs s s.heap) (hbl : b < s.heap.size) (hbA : ¬ A b) {h0 hm out i : Nat} (hL : L ≤ 2560) (hi : i + 5 ≤ L) (hnext : LawAt p l e s m below meth c D cs A b h0 hm out (i + 5)) {n k al be en : Nat} {ea pr : Int32} {cN : Nat → Nat} {cI : Nat → Int32} {cF : Nat → Nat → Int32} {cG : Nat → Nat → Nat → Int32} {cP : Nat → Nat → Nat → Int32} {cQ : Nat → Nat → Nat → Int32} {mN : Nat → Nat} {mI : Nat → Int32} {mF : Nat → Nat → Int32} {pot potm : Nat} {w wm : va_W} {og : Nat → Int64} (hG : GP n k al be en) (hR : RelB n be en ea pr cN cI cF cG cP cQ mN mI mF) (hO : OkM mN mF) (hV : RelS n k al be pr (1 + i) cN cI cG mF) (hw : CW cs h0 n k al be en ea pr cN cI cF cG cP cQ pot w) (hmw : MW cs hm n k al be en ea pr mN mI mF potm wm) {H : Heap} {locs : List Loc} {ls : Array Slot} (hP : va_P D vwCl (w ++ (wm ++ [(out, .inl (cs 1, 1, .inr (.inl og)))])) H) (hD : va_D A (w ++ (wm ++ [(out, .inl (cs 1, 1, .inr (.inl og)))]))) (hS : va_S A s.heap H locs) (hl : lv_has ls 7 [(4, .int (nI i)), (3, .ref out), (2, .ref hm), (1, .ref h0), (0, .ref b)]) : W p l e room_1 s m #[Value.ref b] below meth c H locs (300 + 120 * i) ((20000 + 300 * i + potm) + pot) (lw_Z below #[Value.ref b] s) (F0 m 369 ls []) := by
  have hx := C.1
  have hb := C.2.1
  have hz := C.2.2.2.2.1
  have hown := C.2.2.2.1
  have hA := C.2.2.2.2.2.2.2.2.2
  have hpot := hw.pot
  have hpotm := hmw.pot
  refine lv_aload_n hx hb dL_law_369 rfl (lv_at hl 3 rfl) ?_
  refine lv_aload_n hx hb dL_law_370 rfl (lv_at hl 4 rfl) ?_
  refine lv_iload hx hb dL_law_371 (lv_at hl 0 rfl) ?_
  refine lv_iconst (v := nI 1) hx hb dL_law_373 (by decide) ?_
  refine lv_iadd hx hb dL_law_374 ?_
  refine lv_topi (nm_r (e' := nI (i + 1)) (nI_add _ _) ?_)
  refine va_sld hx hb hX hbl hbA hS (pk_in (i + 1) L (by omega)) dL_law_375 ?_
  refine lv_topi (nm_r (e' := xs (i + 1)) (by rw [nI_clamp (by omega)]) ?_)
  refine lv_aload_n hx hb dL_law_376 rfl (lv_at hl 4 rfl) ?_
  refine lv_iload hx hb dL_law_377 (lv_at hl 0 rfl) ?_
  refine lv_iconst (v := nI 2) hx hb dL_law_379 (by decide) ?_
  refine lv_iadd hx hb dL_law_380 ?_
  refine lv_topi (nm_r (e' := nI (i + 2)) (nI_add _ _) ?_)
  refine va_sld hx hb hX hbl hbA hS (pk_in (i + 2) L (by omega)) dL_law_381 ?_
  refine lv_topi (nm_r (e' := xs (i + 2)) (by rw [nI_clamp (by omega)]) ?_)
  refine law_i (sl := (20000 + 300 * i + potm)) (wr := (wm ++ [(out, .inl (cs 1, 1, .inr (.inl og)))])) (ci := 11) (As := [.int (xs (i + 1)), .int (xs (i + 2))]) (rest := []) C (k_X11_colour hG (xs (i + 1)) (xs (i + 2)) hw) kL_46 hP hD hS (CW.mem hw) rfl rfl (by decide) ⟨Nat.le_of_ble_eq_true rfl, Nat.le_of_ble_eq_true rfl⟩ ⟨by show _ ≤ 601024; omega, by show _ ≤ 7293034; omega⟩ rfl hl.1 rfl (Nat.le_of_ble_eq_true rfl) dL_law_382 ?_
  clear hP hD hS
  try clear locs
  try clear H
  intro r_1 w_2 pot_3 H locs hp_4 hP hD hS
  refine W.widen (k := 300 + 120 * i + 200) (n := (20000 + 300 * i + 500 + potm) + pot_3) (by omega) (by omega) ?_
  obtain ⟨cN_8, cI_9, cF_10, cG_11, cP_12, cQ_13, hm_5, he_6, hw_7⟩ := hp_4
  have hb_14 := CW.pot hw_7
  refine lv_pop hx hb dL_law_385 rfl ?_
  refine lv_aload_n hx hb dL_law_386 rfl (lv_at hl 2 rfl) ?_
  refine lv_aload_n hx hb dL_law_387 rfl (lv_at hl 4 rfl) ?_
  refine lv_iload hx hb dL_law_388 (lv_at hl 0 rfl) ?_
  refine lv_iconst (v := nI 1) hx hb dL_law_390 (by decide) ?_
  refine lv_iadd hx hb dL_law_391 ?_
  refine lv_topi (nm_r (e' := nI (i + 1)) (nI_add _ _) ?_)
  refine va_sld hx hb hX hbl hbA hS (pk_in (i + 1) L (by omega)) dL_law_392 ?_
  refine lv_topi (nm_r (e' := xs (i + 1)) (by rw [nI_clamp (by omega)]) ?_)
  refine lv_aload_n hx hb dL_law_393 rfl (lv_at hl 4 rfl) ?_
  refine lv_iload hx hb dL_law_394 (lv_at hl 0 rfl) ?_
  refine lv_iconst (v := nI 2) hx hb dL_law_396 (by decide) ?_
  refine lv_iadd hx hb dL_law_397 ?_
  refine lv_topi (nm_r (e' := nI (i + 2)) (nI_add _ _) ?_)
  refine va_sld hx hb hX hbl hbA hS (pk_in (i + 2) L (by omega)) dL_law_398 ?_
  refine lv_topi (nm_r (e' := xs (i + 2)) (by rw [nI_clamp (by omega)]) ?_)
  replace hP := pP_perm permSwap hP
  replace hD := pD_perm permSwap hD
  refine W.widen (k := 300 + 120 * i + 200) (n := (20000 + 300 * i + 500 + pot_3) + potm) (by omega) (by omega) ?_
  refine law_i (sl := (20000 + 300 * i + 500 + pot_3)) (wr := (w_2 ++ [(out, .inl (cs 1, 1, .inr (.inl og)))])) (ci := 12) (As := [.int (xs (i + 1)), .int (xs (i + 2))]) (rest := []) C (k_X12_colour hG (xs (i + 1)) (xs (i + 2)) hmw) kL_50 hP hD hS (MW.mem hmw) rfl rfl (by decide) ⟨Nat.le_of_ble_eq_true rfl, Nat.le_of_ble_eq_true rfl⟩ ⟨by show _ ≤ 601024; omega, by show _ ≤ 7293034; omega⟩ rfl hl.1 rfl (Nat.le_of_ble_eq_true rfl) dL_law_399 ?_
  clear hP hD hS
  try clear locs
  try clear H
  intro r_15 w_16 pot_17 H locs hp_18 hP hD hS
  replace hP := pP_perm permSwap hP
  replace hD := pD_perm permSwap hD
  refine W.widen (k := 300 + 120 * i + 200 + 200) (n := (20000 + 300 * i + 500 + 500 + pot_17) + pot_3) (by omega) (by omega) ?_
  obtain ⟨mN_22, mI_23, mF_24, hm_19, he_20, hw_21⟩ := hp_18
  have hO_26 := ok_colour hG hR hO hm_19 he_20
  have hb_hR_25 := br_colour hG hR hm_5 he_6 hm_19 he_20
  have hR_25 := hb_hR_25.1
  have hV_27 := hV.up he_6.2.2.2.2.2.2.2.2.2.2.2.2.2.2.1 he_6.2.2.2.2.2.2.2.2.2.2.2.2.2.2.2.1 he_6.2.2.2.2.2.2.2.2.2.2.2.2.2.2.2.2.1 he_6.2.2.2.2.2.2.2.2.2.2.2.2.2.2.2.2.2 (hb_hR_25.2.2.imp (fun q => ⟨q.1, q.2, rfl⟩) id)
  have hb_28 := MW.pot hw_21
  refine lv_pop hx hb dL_law_402 rfl ?_
  refine lv_goto (tgt := 1140) hx hb dL_law_403 (by decide) ?_
  refine lv_iinc (v := nI (i + 5)) (lv' := [(4, .int (nI (i + 5))), (3, .ref out), (2, .ref hm), (1, .ref h0), (0, .ref b)]) hx hb dL_law_1140 hl (k := 0) rfl (nI_add i 5) (by decide) rfl ?_
  clear hl
  try clear ls
  intro ls hl
  refine lv_goto (tgt := 23) hx hb dL_law_1143 (by decide) ?_
  exact W.widen (by omega) (by omega) (hnext n k al be en ea pr cN_8 cI_9 cF_10 cG_11 cP_12 cQ_13 mN_22 mI_23 mF_24 pot_3 pot_17 w_2 w_16 og _ _ _ hG hR_25 hO_26 (hV_27.mono (by omega)) hw_7 hw_21 hP hD hS (lv_sub hl [0, 1, 2, 3, 4] rfl))

set_option maxHeartbeats 4000000 in
set_option maxRecDepth 100000 in
theorem law_case_6 {p : Program} {e : Env} {s : State} {m : MethodId} {below : List Frame} {meth : Method} {c : Code} (l : Launch) (hfl : l.stackTraces = false) {D : va_G} {cs : Nat → ClassId} {A : Nat → Prop} {b L : Nat} {xs : Nat → Int32} (C : xC p room_1 s m #[Value.ref b] meth c ⟨"SampleHouseLaw", meth.name, ""⟩ code 7 ret D cs A) (hTH : xTH s) (hZ0 : xZ A s s.heap) (hX : va_X b L xs s s.heap) (hbl : b < s.heap.size) (hbA : ¬ A b) {h0 hm out i : Nat} (hL : L ≤ 2560) (hi : i + 5 ≤ L) (hnext : LawAt p l e s m below meth c D cs A b h0 hm out (i + 5)) {n k al be en : Nat} {ea pr : Int32} {cN : Nat → Nat} {cI : Nat → Int32} {cF : Nat → Nat → Int32} {cG : Nat → Nat → Nat → Int32} {cP : Nat → Nat → Nat → Int32} {cQ : Nat → Nat → Nat → Int32} {mN : Nat → Nat} {mI : Nat → Int32} {mF : Nat → Nat → Int32} {pot potm : Nat} {w wm : va_W} {og : Nat → Int64} (hG : GP n k al be en) (hR : RelB n be en ea pr cN cI cF cG cP cQ mN mI mF) (hO : OkM mN mF) (hV : RelS n k al be pr (1 + i) cN cI cG mF) (hw : CW cs h0 n k al be en ea pr cN cI cF cG cP cQ pot w) (hmw : MW cs hm n k al be en ea pr mN mI mF potm wm) {H : Heap} {locs : List Loc} {ls : Array Slot} (hP : va_P D vwCl (w ++ (wm ++ [(out, .inl (cs 1, 1, .inr (.inl og)))])) H) (hD : va_D A (w ++ (wm ++ [(out, .inl (cs 1, 1, .inr (.inl og)))]))) (hS : va_S A s.heap H locs) (hl : lv_has ls 7 [(4, .int (nI i)), (3, .ref out), (2, .ref hm), (1, .ref h0), (0, .ref b)]) : W p l e room_1 s m #[Value.ref b] below meth c H locs (300 + 120 * i) ((20000 + 300 * i + potm) + pot) (lw_Z below #[Value.ref b] s) (F0 m 406 ls []) := by
  have hx := C.1
  have hb := C.2.1
  have hz := C.2.2.2.2.1
  have hown := C.2.2.2.1
  have hA := C.2.2.2.2.2.2.2.2.2
  have hpot := hw.pot
  have hpotm := hmw.pot
  refine lv_aload_n hx hb dL_law_406 rfl (lv_at hl 3 rfl) ?_
  refine lv_aload_n hx hb dL_law_407 rfl (lv_at hl 4 rfl) ?_
  refine lv_iload hx hb dL_law_408 (lv_at hl 0 rfl) ?_
  refine lv_iconst (v := nI 1) hx hb dL_law_410 (by decide) ?_
  refine lv_iadd hx hb dL_law_411 ?_
  refine lv_topi (nm_r (e' := nI (i + 1)) (nI_add _ _) ?_)
  refine va_sld hx hb hX hbl hbA hS (pk_in (i + 1) L (by omega)) dL_law_412 ?_
  refine lv_topi (nm_r (e' := xs (i + 1)) (by rw [nI_clamp (by omega)]) ?_)
  refine lv_aload_n hx hb dL_law_413 rfl (lv_at hl 4 rfl) ?_
  refine lv_iload hx hb dL_law_414 (lv_at hl 0 rfl) ?_
  refine lv_iconst (v := nI 2) hx hb dL_law_416 (by decide) ?_
  refine lv_iadd hx hb dL_law_417 ?_
  refine lv_topi (nm_r (e' := nI (i + 2)) (nI_add _ _) ?_)
  refine va_sld hx hb hX hbl hbA hS (pk_in (i + 2) L (by omega)) dL_law_418 ?_
  refine lv_topi (nm_r (e' := xs (i + 2)) (by rw [nI_clamp (by omega)]) ?_)
  refine law_i (sl := (20000 + 300 * i + potm)) (wr := (wm ++ [(out, .inl (cs 1, 1, .inr (.inl og)))])) (ci := 11) (As := [.int (xs (i + 1)), .int (xs (i + 2))]) (rest := []) C (k_X11_query hG (xs (i + 1)) (xs (i + 2)) hw) kL_51 hP hD hS (CW.mem hw) rfl rfl (by decide) ⟨Nat.le_of_ble_eq_true rfl, Nat.le_of_ble_eq_true rfl⟩ ⟨by show _ ≤ 601024; omega, by show _ ≤ 7293034; omega⟩ rfl hl.1 rfl (Nat.le_of_ble_eq_true rfl) dL_law_419 ?_
  clear hP hD hS
  try clear locs
  try clear H
  intro r_1 w_2 pot_3 H locs hp_4 hP hD hS
  refine W.widen (k := 300 + 120 * i + 200) (n := (20000 + 300 * i + 500 + potm) + pot_3) (by omega) (by omega) ?_
  obtain ⟨cN_8, cI_9, cF_10, cG_11, cP_12, cQ_13, hm_5, he_6, hw_7⟩ := hp_4
  have hb_14 := CW.pot hw_7
  refine lv_pop hx hb dL_law_422 rfl ?_
  refine lv_aload_n hx hb dL_law_423 rfl (lv_at hl 2 rfl) ?_
  refine lv_aload_n hx hb dL_law_424 rfl (lv_at hl 4 rfl) ?_
  refine lv_iload hx hb dL_law_425 (lv_at hl 0 rfl) ?_
  refine lv_iconst (v := nI 1) hx hb dL_law_427 (by decide) ?_
  refine lv_iadd hx hb dL_law_428 ?_
  refine lv_topi (nm_r (e' := nI (i + 1)) (nI_add _ _) ?_)
  refine va_sld hx hb hX hbl hbA hS (pk_in (i + 1) L (by omega)) dL_law_429 ?_
  refine lv_topi (nm_r (e' := xs (i + 1)) (by rw [nI_clamp (by omega)]) ?_)
  refine lv_aload_n hx hb dL_law_430 rfl (lv_at hl 4 rfl) ?_
  refine lv_iload hx hb dL_law_431 (lv_at hl 0 rfl) ?_
  refine lv_iconst (v := nI 2) hx hb dL_law_433 (by decide) ?_
  refine lv_iadd hx hb dL_law_434 ?_
  refine lv_topi (nm_r (e' := nI (i + 2)) (nI_add _ _) ?_)
  refine va_sld hx hb hX hbl hbA hS (pk_in (i + 2) L (by omega)) dL_law_435 ?_
  refine lv_topi (nm_r (e' := xs (i + 2)) (by rw [nI_clamp (by omega)]) ?_)
  replace hP := pP_perm permSwap hP
  replace hD := pD_perm permSwap hD
  refine W.widen (k := 300 + 120 * i + 200) (n := (20000 + 300 * i + 500 + pot_3) + potm) (by omega) (by omega) ?_
  obtain ⟨uu, hrow⟩ := hR.row
  refine law_i (sl := (20000 + 300 * i + 500 + pot_3)) (wr := (w_2 ++ [(out, .inl (cs 1, 1, .inr (.inl og)))])) (ci := 12) (As := [.int (xs (i + 1)), .int (xs (i + 2))]) (rest := []) C (k_X12_query hG (xs (i + 1)) (xs (i + 2)) uu hR.1 hrow hmw) kL_54 hP hD hS (MW.mem hmw) rfl rfl (by decide) ⟨Nat.le_of_ble_eq_true rfl, Nat.le_of_ble_eq_true rfl⟩ ⟨by show _ ≤ 601024; omega, by show _ ≤ 7293034; omega⟩ rfl hl.1 rfl (Nat.le_of_ble_eq_true rfl) dL_law_436 ?_
  clear hP hD hS
  try clear locs
  try clear H
  intro r_15 w_16 pot_17 H locs hp_18 hP hD hS
  replace hP := pP_perm permSwap hP
  replace hD := pD_perm permSwap hD
  refine W.widen (k := 300 + 120 * i + 200 + 200) (n := (20000 + 300 * i + 500 + 500 + pot_17) + pot_3) (by omega) (by omega) ?_
  obtain ⟨mN_22, mI_23, mF_24, hm_19, he_20, hw_21⟩ := hp_18
  have hO_26 := ok_query hG hR hO hrow hm_19 he_20
  have hb_hR_25 := br_query hG hR hrow hm_5 he_6 hm_19 he_20
  have hR_25 := hb_hR_25.1
  have hV_27 := hV.up he_6.2.2.2.2.2.2.2.2.2.2.2.2.2.1 he_6.2.2.2.2.2.2.2.2.2.2.2.2.2.2.1 he_6.2.2.2.2.2.2.2.2.2.2.2.2.2.2.2.1 he_6.2.2.2.2.2.2.2.2.2.2.2.2.2.2.2.2 (hb_hR_25.2.2.imp (fun q => ⟨q.1, q.2, rfl⟩) id)
  have hb_28 := MW.pot hw_21
  refine lv_pop hx hb dL_law_439 rfl ?_
  refine lv_goto (tgt := 1140) hx hb dL_law_440 (by decide) ?_
  refine lv_iinc (v := nI (i + 5)) (lv' := [(4, .int (nI (i + 5))), (3, .ref out), (2, .ref hm), (1, .ref h0), (0, .ref b)]) hx hb dL_law_1140 hl (k := 0) rfl (nI_add i 5) (by decide) rfl ?_
  clear hl
  try clear ls
  intro ls hl
  refine lv_goto (tgt := 23) hx hb dL_law_1143 (by decide) ?_
  exact W.widen (by omega) (by omega) (hnext n k al be en ea pr cN_8 cI_9 cF_10 cG_11 cP_12 cQ_13 mN_22 mI_23 mF_24 pot_3 pot_17 w_2 w_16 og _ _ _ hG hR_25 hO_26 (hV_27.mono (by omega)) hw_7 hw_21 hP hD hS (lv_sub hl [0, 1, 2, 3, 4] rfl))

set_option maxHeartbeats 4000000 in
set_option maxRecDepth 100000 in
theorem law_case_7 {p : Program} {e : Env} {s : State} {m : MethodId} {below : List Frame} {meth : Method} {c : Code} (l : Launch) (hfl : l.stackTraces = false) {D : va_G} {cs : Nat → ClassId} {A : Nat → Prop} {b L : Nat} {xs : Nat → Int32} (C : xC p room_1 s m #[Value.ref b] meth c ⟨"SampleHouseLaw", meth.name, ""⟩ code 7 ret D cs A) (hTH : xTH s) (hZ0 : xZ A s s.heap) (hX : va_X b L xs s s.heap) (hbl : b < s.heap.size) (hbA : ¬ A b) {h0 hm out i : Nat} (hL : L ≤ 2560) (hi : i + 5 ≤ L) (hnext : LawAt p l e s m below meth c D cs A b h0 hm out (i + 5)) {n k al be en : Nat} {ea pr : Int32} {cN : Nat → Nat} {cI : Nat → Int32} {cF : Nat → Nat → Int32} {cG : Nat → Nat → Nat → Int32} {cP : Nat → Nat → Nat → Int32} {cQ : Nat → Nat → Nat → Int32} {mN : Nat → Nat} {mI : Nat → Int32} {mF : Nat → Nat → Int32} {pot potm : Nat} {w wm : va_W} {og : Nat → Int64} (hG : GP n k al be en) (hR : RelB n be en ea pr cN cI cF cG cP cQ mN mI mF) (hO : OkM mN mF) (hV : RelS n k al be pr (1 + i) cN cI cG mF) (hw : CW cs h0 n k al be en ea pr cN cI cF cG cP cQ pot w) (hmw : MW cs hm n k al be en ea pr mN mI mF potm wm) {H : Heap} {locs : List Loc} {ls : Array Slot} (hP : va_P D vwCl (w ++ (wm ++ [(out, .inl (cs 1, 1, .inr (.inl og)))])) H) (hD : va_D A (w ++ (wm ++ [(out, .inl (cs 1, 1, .inr (.inl og)))]))) (hS : va_S A s.heap H locs) (hl : lv_has ls 7 [(4, .int (nI i)), (3, .ref out), (2, .ref hm), (1, .ref h0), (0, .ref b)]) : W p l e room_1 s m #[Value.ref b] below meth c H locs (300 + 120 * i) ((20000 + 300 * i + potm) + pot) (lw_Z below #[Value.ref b] s) (F0 m 443 ls []) := by
  have hx := C.1
  have hb := C.2.1
  have hz := C.2.2.2.2.1
  have hown := C.2.2.2.1
  have hA := C.2.2.2.2.2.2.2.2.2
  have hpot := hw.pot
  have hpotm := hmw.pot
  refine lv_aload_n hx hb dL_law_443 rfl (lv_at hl 3 rfl) ?_
  refine lv_aload_n hx hb dL_law_444 rfl (lv_at hl 4 rfl) ?_
  refine lv_iload hx hb dL_law_445 (lv_at hl 0 rfl) ?_
  refine lv_iconst (v := nI 1) hx hb dL_law_447 (by decide) ?_
  refine lv_iadd hx hb dL_law_448 ?_
  refine lv_topi (nm_r (e' := nI (i + 1)) (nI_add _ _) ?_)
  refine va_sld hx hb hX hbl hbA hS (pk_in (i + 1) L (by omega)) dL_law_449 ?_
  refine lv_topi (nm_r (e' := xs (i + 1)) (by rw [nI_clamp (by omega)]) ?_)
  refine lv_aload_n hx hb dL_law_450 rfl (lv_at hl 4 rfl) ?_
  refine lv_iload hx hb dL_law_451 (lv_at hl 0 rfl) ?_
  refine lv_iconst (v := nI 2) hx hb dL_law_453 (by decide) ?_
  refine lv_iadd hx hb dL_law_454 ?_
  refine lv_topi (nm_r (e' := nI (i + 2)) (nI_add _ _) ?_)
  refine va_sld hx hb hX hbl hbA hS (pk_in (i + 2) L (by omega)) dL_law_455 ?_
  refine lv_topi (nm_r (e' := xs (i + 2)) (by rw [nI_clamp (by omega)]) ?_)
  refine law_i (sl := (20000 + 300 * i + potm)) (wr := (wm ++ [(out, .inl (cs 1, 1, .inr (.inl og)))])) (ci := 11) (As := [.int (xs (i + 1)), .int (xs (i + 2))]) (rest := []) C (k_X11_would hG (xs (i + 1)) (xs (i + 2)) hw) kL_55 hP hD hS (CW.mem hw) rfl rfl (by decide) ⟨Nat.le_of_ble_eq_true rfl, Nat.le_of_ble_eq_true rfl⟩ ⟨by show _ ≤ 601024; omega, by show _ ≤ 7293034; omega⟩ rfl hl.1 rfl (Nat.le_of_ble_eq_true rfl) dL_law_456 ?_
  clear hP hD hS
  try clear locs
  try clear H
  intro r_1 w_2 pot_3 H locs hp_4 hP hD hS
  refine W.widen (k := 300 + 120 * i + 200) (n := (20000 + 300 * i + 500 + potm) + pot_3) (by omega) (by omega) ?_
  obtain ⟨cN_8, cI_9, cF_10, cG_11, cP_12, cQ_13, hm_5, he_6, hw_7⟩ := hp_4
  have hb_14 := CW.pot hw_7
  refine lv_pop hx hb dL_law_459 rfl ?_
  refine lv_aload_n hx hb dL_law_460 rfl (lv_at hl 2 rfl) ?_
  refine lv_aload_n hx hb dL_law_461 rfl (lv_at hl 4 rfl) ?_
  refine lv_iload hx hb dL_law_462 (lv_at hl 0 rfl) ?_
  refine lv_iconst (v := nI 1) hx hb dL_law_464 (by decide) ?_
  refine lv_iadd hx hb dL_law_465 ?_
  refine lv_topi (nm_r (e' := nI (i + 1)) (nI_add _ _) ?_)
  refine va_sld hx hb hX hbl hbA hS (pk_in (i + 1) L (by omega)) dL_law_466 ?_
  refine lv_topi (nm_r (e' := xs (i + 1)) (by rw [nI_clamp (by omega)]) ?_)
  refine lv_aload_n hx hb dL_law_467 rfl (lv_at hl 4 rfl) ?_
  refine lv_iload hx hb dL_law_468 (lv_at hl 0 rfl) ?_
  refine lv_iconst (v := nI 2) hx hb dL_law_470 (by decide) ?_
  refine lv_iadd hx hb dL_law_471 ?_
  refine lv_topi (nm_r (e' := nI (i + 2)) (nI_add _ _) ?_)
  refine va_sld hx hb hX hbl hbA hS (pk_in (i + 2) L (by omega)) dL_law_472 ?_
  refine lv_topi (nm_r (e' := xs (i + 2)) (by rw [nI_clamp (by omega)]) ?_)
  replace hP := pP_perm permSwap hP
  replace hD := pD_perm permSwap hD
  refine W.widen (k := 300 + 120 * i + 200) (n := (20000 + 300 * i + 500 + pot_3) + potm) (by omega) (by omega) ?_
  obtain ⟨uu, hrow⟩ := hR.row
  refine law_i (sl := (20000 + 300 * i + 500 + pot_3)) (wr := (w_2 ++ [(out, .inl (cs 1, 1, .inr (.inl og)))])) (ci := 12) (As := [.int (xs (i + 1)), .int (xs (i + 2))]) (rest := []) C (k_X12_would hG (xs (i + 1)) (xs (i + 2)) uu hR.1 hrow hmw) kL_58 hP hD hS (MW.mem hmw) rfl rfl (by decide) ⟨Nat.le_of_ble_eq_true rfl, Nat.le_of_ble_eq_true rfl⟩ ⟨by show _ ≤ 601024; omega, by show _ ≤ 7293034; omega⟩ rfl hl.1 rfl (Nat.le_of_ble_eq_true rfl) dL_law_473 ?_
  clear hP hD hS
  try clear locs
  try clear H
  intro r_15 w_16 pot_17 H locs hp_18 hP hD hS
  replace hP := pP_perm permSwap hP
  replace hD := pD_perm permSwap hD
  refine W.widen (k := 300 + 120 * i + 200 + 200) (n := (20000 + 300 * i + 500 + 500 + pot_17) + pot_3) (by omega) (by omega) ?_
  obtain ⟨mN_22, mI_23, mF_24, hm_19, he_20, hw_21⟩ := hp_18
  have hO_26 := hO.same he_20.1 hm_19.1.2 he_20.2.2.2.1
  have hb_hR_25 := br_would hG hR hrow hm_5 he_6 hm_19 he_20
  have hR_25 := hb_hR_25.1
  have hV_27 := hV.up (pr2 := pr) he_6.2.2.2.2.2.2.2.2.2.2.2.2.2.2.2.2.2.2.2.1 he_6.2.2.2.2.2.2.2.2.2.2.2.2.2.2.2.2.2.2.2.2.1 he_6.2.2.2.2.2.2.2.2.2.2.2.2.2.2.2.2.2.2.2.2.2.2.1 he_6.2.2.2.2.2.2.2.2.2.2.2.2.2.2.2.2.2.2.2.2.2.2.2 (Or.inl ⟨he_6.2.2.2.2.2.2.2.2.2.2.2.2.2.2.2.2.2.2.2.2.2.1, (fun j hj => (hm_19.1.2 j (by omega)).symm), rfl⟩)
  have hb_28 := MW.pot hw_21
  refine lv_pop hx hb dL_law_476 rfl ?_
  refine lv_goto (tgt := 1140) hx hb dL_law_477 (by decide) ?_
  refine lv_iinc (v := nI (i + 5)) (lv' := [(4, .int (nI (i + 5))), (3, .ref out), (2, .ref hm), (1, .ref h0), (0, .ref b)]) hx hb dL_law_1140 hl (k := 0) rfl (nI_add i 5) (by decide) rfl ?_
  clear hl
  try clear ls
  intro ls hl
  refine lv_goto (tgt := 23) hx hb dL_law_1143 (by decide) ?_
  exact W.widen (by omega) (by omega) (hnext n k al be en ea pr cN_8 cI_9 cF_10 cG_11 cP_12 cQ_13 mN_22 mI_23 mF_24 pot_3 pot_17 w_2 w_16 og _ _ _ hG hR_25 hO_26 (hV_27.mono (by omega)) hw_7 hw_21 hP hD hS (lv_sub hl [0, 1, 2, 3, 4] rfl))

set_option maxHeartbeats 4000000 in
set_option maxRecDepth 100000 in
theorem law_case_8 {p : Program} {e : Env} {s : State} {m : MethodId} {below : List Frame} {meth : Method} {c : Code} (l : Launch) (hfl : l.stackTraces = false) {D : va_G} {cs : Nat → ClassId} {A : Nat → Prop} {b L : Nat} {xs : Nat → Int32} (C : xC p room_1 s m #[Value.ref b] meth c ⟨"SampleHouseLaw", meth.name, ""⟩ code 7 ret D cs A) (hTH : xTH s) (hZ0 : xZ A s s.heap) (hX : va_X b L xs s s.heap) (hbl : b < s.heap.size) (hbA : ¬ A b) {h0 hm out i : Nat} (hL : L ≤ 2560) (hi : i + 5 ≤ L) (hnext : LawAt p l e s m below meth c D cs A b h0 hm out (i + 5)) {n k al be en : Nat} {ea pr : Int32} {cN : Nat → Nat} {cI : Nat → Int32} {cF : Nat → Nat → Int32} {cG : Nat → Nat → Nat → Int32} {cP : Nat → Nat → Nat → Int32} {cQ : Nat → Nat → Nat → Int32} {mN : Nat → Nat} {mI : Nat → Int32} {mF : Nat → Nat → Int32} {pot potm : Nat} {w wm : va_W} {og : Nat → Int64} (hG : GP n k al be en) (hR : RelB n be en ea pr cN cI cF cG cP cQ mN mI mF) (hO : OkM mN mF) (hV : RelS n k al be pr (1 + i) cN cI cG mF) (hw : CW cs h0 n k al be en ea pr cN cI cF cG cP cQ pot w) (hmw : MW cs hm n k al be en ea pr mN mI mF potm wm) {H : Heap} {locs : List Loc} {ls : Array Slot} (hP : va_P D vwCl (w ++ (wm ++ [(out, .inl (cs 1, 1, .inr (.inl og)))])) H) (hD : va_D A (w ++ (wm ++ [(out, .inl (cs 1, 1, .inr (.inl og)))]))) (hS : va_S A s.heap H locs) (hl : lv_has ls 7 [(4, .int (nI i)), (3, .ref out), (2, .ref hm), (1, .ref h0), (0, .ref b)]) : W p l e room_1 s m #[Value.ref b] below meth c H locs (300 + 120 * i) ((20000 + 300 * i + potm) + pot) (lw_Z below #[Value.ref b] s) (F0 m 480 ls []) := by
  have hx := C.1
  have hb := C.2.1
  have hz := C.2.2.2.2.1
  have hown := C.2.2.2.1
  have hA := C.2.2.2.2.2.2.2.2.2
  have hpot := hw.pot
  have hpotm := hmw.pot
  refine lv_aload_n hx hb dL_law_480 rfl (lv_at hl 3 rfl) ?_
  refine lv_aload_n hx hb dL_law_481 rfl (lv_at hl 4 rfl) ?_
  refine lv_iload hx hb dL_law_482 (lv_at hl 0 rfl) ?_
  refine lv_iconst (v := nI 1) hx hb dL_law_484 (by decide) ?_
  refine lv_iadd hx hb dL_law_485 ?_
  refine lv_topi (nm_r (e' := nI (i + 1)) (nI_add _ _) ?_)
  refine va_sld hx hb hX hbl hbA hS (pk_in (i + 1) L (by omega)) dL_law_486 ?_
  refine lv_topi (nm_r (e' := xs (i + 1)) (by rw [nI_clamp (by omega)]) ?_)
  refine lv_aload_n hx hb dL_law_487 rfl (lv_at hl 4 rfl) ?_
  refine lv_iload hx hb dL_law_488 (lv_at hl 0 rfl) ?_
  refine lv_iconst (v := nI 2) hx hb dL_law_490 (by decide) ?_
  refine lv_iadd hx hb dL_law_491 ?_
  refine lv_topi (nm_r (e' := nI (i + 2)) (nI_add _ _) ?_)
  refine va_sld hx hb hX hbl hbA hS (pk_in (i + 2) L (by omega)) dL_law_492 ?_
  refine lv_topi (nm_r (e' := xs (i + 2)) (by rw [nI_clamp (by omega)]) ?_)
  refine law_i (sl := (20000 + 300 * i + potm)) (wr := (wm ++ [(out, .inl (cs 1, 1, .inr (.inl og)))])) (ci := 11) (As := [.int (xs (i + 1)), .int (xs (i + 2))]) (rest := []) C (k_X11_run hG (xs (i + 1)) (xs (i + 2)) hw) kL_59 hP hD hS (CW.mem hw) rfl rfl (by decide) ⟨Nat.le_of_ble_eq_true rfl, Nat.le_of_ble_eq_true rfl⟩ ⟨by show _ ≤ 601024; omega, by show _ ≤ 7293034; omega⟩ rfl hl.1 rfl (Nat.le_of_ble_eq_true rfl) dL_law_493 ?_
  clear hP hD hS
  try clear locs
  try clear H
  intro r_1 w_2 pot_3 H locs hp_4 hP hD hS
  refine W.widen (k := 300 + 120 * i + 200) (n := (20000 + 300 * i + 500 + potm) + pot_3) (by omega) (by omega) ?_
  obtain ⟨cN_8, cI_9, cF_10, cG_11, cP_12, cQ_13, hm_5, he_6, hw_7⟩ := hp_4
  have hb_14 := CW.pot hw_7
  refine lv_pop hx hb dL_law_496 rfl ?_
  refine lv_aload_n hx hb dL_law_497 rfl (lv_at hl 2 rfl) ?_
  refine lv_aload_n hx hb dL_law_498 rfl (lv_at hl 4 rfl) ?_
  refine lv_iload hx hb dL_law_499 (lv_at hl 0 rfl) ?_
  refine lv_iconst (v := nI 1) hx hb dL_law_501 (by decide) ?_
  refine lv_iadd hx hb dL_law_502 ?_
  refine lv_topi (nm_r (e' := nI (i + 1)) (nI_add _ _) ?_)
  refine va_sld hx hb hX hbl hbA hS (pk_in (i + 1) L (by omega)) dL_law_503 ?_
  refine lv_topi (nm_r (e' := xs (i + 1)) (by rw [nI_clamp (by omega)]) ?_)
  refine lv_aload_n hx hb dL_law_504 rfl (lv_at hl 4 rfl) ?_
  refine lv_iload hx hb dL_law_505 (lv_at hl 0 rfl) ?_
  refine lv_iconst (v := nI 2) hx hb dL_law_507 (by decide) ?_
  refine lv_iadd hx hb dL_law_508 ?_
  refine lv_topi (nm_r (e' := nI (i + 2)) (nI_add _ _) ?_)
  refine va_sld hx hb hX hbl hbA hS (pk_in (i + 2) L (by omega)) dL_law_509 ?_
  refine lv_topi (nm_r (e' := xs (i + 2)) (by rw [nI_clamp (by omega)]) ?_)
  replace hP := pP_perm permSwap hP
  replace hD := pD_perm permSwap hD
  refine W.widen (k := 300 + 120 * i + 200) (n := (20000 + 300 * i + 500 + pot_3) + potm) (by omega) (by omega) ?_
  refine law_i (sl := (20000 + 300 * i + 500 + pot_3)) (wr := (w_2 ++ [(out, .inl (cs 1, 1, .inr (.inl og)))])) (ci := 12) (As := [.int (xs (i + 1)), .int (xs (i + 2))]) (rest := []) C (k_X12_run hG (xs (i + 1)) (xs (i + 2)) hR.1 hR.row1 hmw) kL_62 hP hD hS (MW.mem hmw) rfl rfl (by decide) ⟨Nat.le_of_ble_eq_true rfl, Nat.le_of_ble_eq_true rfl⟩ ⟨by show _ ≤ 601024; omega, by show _ ≤ 7293034; omega⟩ rfl hl.1 rfl (Nat.le_of_ble_eq_true rfl) dL_law_510 ?_
  clear hP hD hS
  try clear locs
  try clear H
  intro r_15 w_16 pot_17 H locs hp_18 hP hD hS
  replace hP := pP_perm permSwap hP
  replace hD := pD_perm permSwap hD
  refine W.widen (k := 300 + 120 * i + 200 + 200) (n := (20000 + 300 * i + 500 + 500 + pot_17) + pot_3) (by omega) (by omega) ?_
  obtain ⟨mN_22, mI_23, mF_24, hm_19, he_20, hw_21⟩ := hp_18
  have hO_26 := ok_run hG hR hO hm_19 he_20
  have hb_hR_25 := br_run hG hR hm_5 he_6 hm_19 he_20
  have hR_25 := hb_hR_25.1
  have hV_27 := hV.up he_6.2.2.2.2.2.2.2.2.2.2.2.2.2.1 he_6.2.2.2.2.2.2.2.2.2.2.2.2.2.2.1 he_6.2.2.2.2.2.2.2.2.2.2.2.2.2.2.2.1 he_6.2.2.2.2.2.2.2.2.2.2.2.2.2.2.2.2 (hb_hR_25.2.2.imp (fun q => ⟨q.1, q.2, rfl⟩) id)
  have hb_28 := MW.pot hw_21
  refine lv_pop hx hb dL_law_513 rfl ?_
  refine lv_goto (tgt := 1140) hx hb dL_law_514 (by decide) ?_
  refine lv_iinc (v := nI (i + 5)) (lv' := [(4, .int (nI (i + 5))), (3, .ref out), (2, .ref hm), (1, .ref h0), (0, .ref b)]) hx hb dL_law_1140 hl (k := 0) rfl (nI_add i 5) (by decide) rfl ?_
  clear hl
  try clear ls
  intro ls hl
  refine lv_goto (tgt := 23) hx hb dL_law_1143 (by decide) ?_
  exact W.widen (by omega) (by omega) (hnext n k al be en ea pr cN_8 cI_9 cF_10 cG_11 cP_12 cQ_13 mN_22 mI_23 mF_24 pot_3 pot_17 w_2 w_16 og _ _ _ hG hR_25 hO_26 (hV_27.mono (by omega)) hw_7 hw_21 hP hD hS (lv_sub hl [0, 1, 2, 3, 4] rfl))

set_option maxHeartbeats 4000000 in
set_option maxRecDepth 100000 in
theorem law_case_9 {p : Program} {e : Env} {s : State} {m : MethodId} {below : List Frame} {meth : Method} {c : Code} (l : Launch) (hfl : l.stackTraces = false) {D : va_G} {cs : Nat → ClassId} {A : Nat → Prop} {b L : Nat} {xs : Nat → Int32} (C : xC p room_1 s m #[Value.ref b] meth c ⟨"SampleHouseLaw", meth.name, ""⟩ code 7 ret D cs A) (hTH : xTH s) (hZ0 : xZ A s s.heap) (hX : va_X b L xs s s.heap) (hbl : b < s.heap.size) (hbA : ¬ A b) {h0 hm out i : Nat} (hL : L ≤ 2560) (hi : i + 5 ≤ L) (hnext : LawAt p l e s m below meth c D cs A b h0 hm out (i + 5)) {n k al be en : Nat} {ea pr : Int32} {cN : Nat → Nat} {cI : Nat → Int32} {cF : Nat → Nat → Int32} {cG : Nat → Nat → Nat → Int32} {cP : Nat → Nat → Nat → Int32} {cQ : Nat → Nat → Nat → Int32} {mN : Nat → Nat} {mI : Nat → Int32} {mF : Nat → Nat → Int32} {pot potm : Nat} {w wm : va_W} {og : Nat → Int64} (hG : GP n k al be en) (hR : RelB n be en ea pr cN cI cF cG cP cQ mN mI mF) (hO : OkM mN mF) (hV : RelS n k al be pr (1 + i) cN cI cG mF) (hw : CW cs h0 n k al be en ea pr cN cI cF cG cP cQ pot w) (hmw : MW cs hm n k al be en ea pr mN mI mF potm wm) {H : Heap} {locs : List Loc} {ls : Array Slot} (hP : va_P D vwCl (w ++ (wm ++ [(out, .inl (cs 1, 1, .inr (.inl og)))])) H) (hD : va_D A (w ++ (wm ++ [(out, .inl (cs 1, 1, .inr (.inl og)))]))) (hS : va_S A s.heap H locs) (hl : lv_has ls 7 [(4, .int (nI i)), (3, .ref out), (2, .ref hm), (1, .ref h0), (0, .ref b)]) : W p l e room_1 s m #[Value.ref b] below meth c H locs (300 + 120 * i) ((20000 + 300 * i + potm) + pot) (lw_Z below #[Value.ref b] s) (F0 m 517 ls []) := by
  have hx := C.1
  have hb := C.2.1
  have hz := C.2.2.2.2.1
  have hown := C.2.2.2.1
  have hA := C.2.2.2.2.2.2.2.2.2
  have hpot := hw.pot
  have hpotm := hmw.pot
  refine lv_aload_n hx hb dL_law_517 rfl (lv_at hl 3 rfl) ?_
  refine lv_aload_n hx hb dL_law_518 rfl (lv_at hl 4 rfl) ?_
  refine lv_iload hx hb dL_law_519 (lv_at hl 0 rfl) ?_
  refine lv_iconst (v := nI 1) hx hb dL_law_521 (by decide) ?_
  refine lv_iadd hx hb dL_law_522 ?_
  refine lv_topi (nm_r (e' := nI (i + 1)) (nI_add _ _) ?_)
  refine va_sld hx hb hX hbl hbA hS (pk_in (i + 1) L (by omega)) dL_law_523 ?_
  refine lv_topi (nm_r (e' := xs (i + 1)) (by rw [nI_clamp (by omega)]) ?_)
  refine lv_aload_n hx hb dL_law_524 rfl (lv_at hl 4 rfl) ?_
  refine lv_iload hx hb dL_law_525 (lv_at hl 0 rfl) ?_
  refine lv_iconst (v := nI 2) hx hb dL_law_527 (by decide) ?_
  refine lv_iadd hx hb dL_law_528 ?_
  refine lv_topi (nm_r (e' := nI (i + 2)) (nI_add _ _) ?_)
  refine va_sld hx hb hX hbl hbA hS (pk_in (i + 2) L (by omega)) dL_law_529 ?_
  refine lv_topi (nm_r (e' := xs (i + 2)) (by rw [nI_clamp (by omega)]) ?_)
  refine law_i (sl := (20000 + 300 * i + potm)) (wr := (wm ++ [(out, .inl (cs 1, 1, .inr (.inl og)))])) (ci := 11) (As := [.int (xs (i + 1)), .int (xs (i + 2))]) (rest := []) C (k_X11_node hG (xs (i + 1)) (xs (i + 2)) hw) kL_63 hP hD hS (CW.mem hw) rfl rfl (by decide) ⟨Nat.le_of_ble_eq_true rfl, Nat.le_of_ble_eq_true rfl⟩ ⟨by show _ ≤ 601024; omega, by show _ ≤ 7293034; omega⟩ rfl hl.1 rfl (Nat.le_of_ble_eq_true rfl) dL_law_530 ?_
  clear hP hD hS
  try clear locs
  try clear H
  intro r_1 w_2 pot_3 H locs hp_4 hP hD hS
  refine W.widen (k := 300 + 120 * i + 200) (n := (20000 + 300 * i + 500 + potm) + pot_3) (by omega) (by omega) ?_
  obtain ⟨cN_8, cI_9, cF_10, cG_11, cP_12, cQ_13, hm_5, he_6, hw_7⟩ := hp_4
  have hb_14 := CW.pot hw_7
  refine lv_pop hx hb dL_law_533 rfl ?_
  refine lv_aload_n hx hb dL_law_534 rfl (lv_at hl 2 rfl) ?_
  refine lv_aload_n hx hb dL_law_535 rfl (lv_at hl 4 rfl) ?_
  refine lv_iload hx hb dL_law_536 (lv_at hl 0 rfl) ?_
  refine lv_iconst (v := nI 1) hx hb dL_law_538 (by decide) ?_
  refine lv_iadd hx hb dL_law_539 ?_
  refine lv_topi (nm_r (e' := nI (i + 1)) (nI_add _ _) ?_)
  refine va_sld hx hb hX hbl hbA hS (pk_in (i + 1) L (by omega)) dL_law_540 ?_
  refine lv_topi (nm_r (e' := xs (i + 1)) (by rw [nI_clamp (by omega)]) ?_)
  refine lv_aload_n hx hb dL_law_541 rfl (lv_at hl 4 rfl) ?_
  refine lv_iload hx hb dL_law_542 (lv_at hl 0 rfl) ?_
  refine lv_iconst (v := nI 2) hx hb dL_law_544 (by decide) ?_
  refine lv_iadd hx hb dL_law_545 ?_
  refine lv_topi (nm_r (e' := nI (i + 2)) (nI_add _ _) ?_)
  refine va_sld hx hb hX hbl hbA hS (pk_in (i + 2) L (by omega)) dL_law_546 ?_
  refine lv_topi (nm_r (e' := xs (i + 2)) (by rw [nI_clamp (by omega)]) ?_)
  replace hP := pP_perm permSwap hP
  replace hD := pD_perm permSwap hD
  refine W.widen (k := 300 + 120 * i + 200) (n := (20000 + 300 * i + 500 + pot_3) + potm) (by omega) (by omega) ?_
  refine law_i (sl := (20000 + 300 * i + 500 + pot_3)) (wr := (w_2 ++ [(out, .inl (cs 1, 1, .inr (.inl og)))])) (ci := 12) (As := [.int (xs (i + 1)), .int (xs (i + 2))]) (rest := []) C (k_X12_node hG (xs (i + 1)) (xs (i + 2)) hmw) kL_66 hP hD hS (MW.mem hmw) rfl rfl (by decide) ⟨Nat.le_of_ble_eq_true rfl, Nat.le_of_ble_eq_true rfl⟩ ⟨by show _ ≤ 601024; omega, by show _ ≤ 7293034; omega⟩ rfl hl.1 rfl (Nat.le_of_ble_eq_true rfl) dL_law_547 ?_
  clear hP hD hS
  try clear locs
  try clear H
  intro r_15 w_16 pot_17 H locs hp_18 hP hD hS
  replace hP := pP_perm permSwap hP
  replace hD := pD_perm permSwap hD
  refine W.widen (k := 300 + 120 * i + 200 + 200) (n := (20000 + 300 * i + 500 + 500 + pot_17) + pot_3) (by omega) (by omega) ?_
  obtain ⟨mN_22, mI_23, mF_24, hm_19, he_20, hw_21⟩ := hp_18
  have hO_26 := hO.same he_20.1 (fun j _ => congrFun he_20.2.2.2.1 j) he_20.2.2.2.2.1
  have hb_hR_25 := br_node hG hR hm_5 he_6 hm_19 he_20
  have hR_25 := hb_hR_25.1
  have hV_27 := hV.up (pr2 := pr) he_6.2.2.2.2.2.2.2.2.2.2.2.2.2.2.2.2.2.2.2.1 he_6.2.2.2.2.2.2.2.2.2.2.2.2.2.2.2.2.2.2.2.2.1 he_6.2.2.2.2.2.2.2.2.2.2.2.2.2.2.2.2.2.2.2.2.2.2.1 he_6.2.2.2.2.2.2.2.2.2.2.2.2.2.2.2.2.2.2.2.2.2.2.2 (Or.inl ⟨he_6.2.2.2.2.2.2.2.2.2.2.2.2.2.2.2.2.2.2.2.2.2.1, (fun j hj => ((fun j _ => congrFun he_20.2.2.2.1 j) j (by omega)).symm), rfl⟩)
  have hb_28 := MW.pot hw_21
  refine lv_pop hx hb dL_law_550 rfl ?_
  refine lv_goto (tgt := 1140) hx hb dL_law_551 (by decide) ?_
  refine lv_iinc (v := nI (i + 5)) (lv' := [(4, .int (nI (i + 5))), (3, .ref out), (2, .ref hm), (1, .ref h0), (0, .ref b)]) hx hb dL_law_1140 hl (k := 0) rfl (nI_add i 5) (by decide) rfl ?_
  clear hl
  try clear ls
  intro ls hl
  refine lv_goto (tgt := 23) hx hb dL_law_1143 (by decide) ?_
  exact W.widen (by omega) (by omega) (hnext n k al be en ea pr cN_8 cI_9 cF_10 cG_11 cP_12 cQ_13 mN_22 mI_23 mF_24 pot_3 pot_17 w_2 w_16 og _ _ _ hG hR_25 hO_26 (hV_27.mono (by omega)) hw_7 hw_21 hP hD hS (lv_sub hl [0, 1, 2, 3, 4] rfl))

set_option maxHeartbeats 4000000 in
set_option maxRecDepth 100000 in
theorem law_case_10 {p : Program} {e : Env} {s : State} {m : MethodId} {below : List Frame} {meth : Method} {c : Code} (l : Launch) (hfl : l.stackTraces = false) {D : va_G} {cs : Nat → ClassId} {A : Nat → Prop} {b L : Nat} {xs : Nat → Int32} (C : xC p room_1 s m #[Value.ref b] meth c ⟨"SampleHouseLaw", meth.name, ""⟩ code 7 ret D cs A) (hTH : xTH s) (hZ0 : xZ A s s.heap) (hX : va_X b L xs s s.heap) (hbl : b < s.heap.size) (hbA : ¬ A b) {h0 hm out i : Nat} (hL : L ≤ 2560) (hi : i + 5 ≤ L) (hnext : LawAt p l e s m below meth c D cs A b h0 hm out (i + 5)) {n k al be en : Nat} {ea pr : Int32} {cN : Nat → Nat} {cI : Nat → Int32} {cF : Nat → Nat → Int32} {cG : Nat → Nat → Nat → Int32} {cP : Nat → Nat → Nat → Int32} {cQ : Nat → Nat → Nat → Int32} {mN : Nat → Nat} {mI : Nat → Int32} {mF : Nat → Nat → Int32} {pot potm : Nat} {w wm : va_W} {og : Nat → Int64} (hG : GP n k al be en) (hR : RelB n be en ea pr cN cI cF cG cP cQ mN mI mF) (hO : OkM mN mF) (hV : RelS n k al be pr (1 + i) cN cI cG mF) (hw : CW cs h0 n k al be en ea pr cN cI cF cG cP cQ pot w) (hmw : MW cs hm n k al be en ea pr mN mI mF potm wm) {H : Heap} {locs : List Loc} {ls : Array Slot} (hP : va_P D vwCl (w ++ (wm ++ [(out, .inl (cs 1, 1, .inr (.inl og)))])) H) (hD : va_D A (w ++ (wm ++ [(out, .inl (cs 1, 1, .inr (.inl og)))]))) (hS : va_S A s.heap H locs) (hl : lv_has ls 7 [(4, .int (nI i)), (3, .ref out), (2, .ref hm), (1, .ref h0), (0, .ref b)]) : W p l e room_1 s m #[Value.ref b] below meth c H locs (300 + 120 * i) ((20000 + 300 * i + potm) + pot) (lw_Z below #[Value.ref b] s) (F0 m 554 ls []) := by
  have hx := C.1
  have hb := C.2.1
  have hz := C.2.2.2.2.1
  have hown := C.2.2.2.1
  have hA := C.2.2.2.2.2.2.2.2.2
  have hpot := hw.pot
  have hpotm := hmw.pot
  refine lv_aload_n hx hb dL_law_554 rfl (lv_at hl 3 rfl) ?_
  refine lv_aload_n hx hb dL_law_555 rfl (lv_at hl 4 rfl) ?_
  refine lv_iload hx hb dL_law_556 (lv_at hl 0 rfl) ?_
  refine lv_iconst (v := nI 1) hx hb dL_law_558 (by decide) ?_
  refine lv_iadd hx hb dL_law_559 ?_
  refine lv_topi (nm_r (e' := nI (i + 1)) (nI_add _ _) ?_)
  refine va_sld hx hb hX hbl hbA hS (pk_in (i + 1) L (by omega)) dL_law_560 ?_
  refine lv_topi (nm_r (e' := xs (i + 1)) (by rw [nI_clamp (by omega)]) ?_)
  refine lv_aload_n hx hb dL_law_561 rfl (lv_at hl 4 rfl) ?_
  refine lv_iload hx hb dL_law_562 (lv_at hl 0 rfl) ?_
  refine lv_iconst (v := nI 2) hx hb dL_law_564 (by decide) ?_
  refine lv_iadd hx hb dL_law_565 ?_
  refine lv_topi (nm_r (e' := nI (i + 2)) (nI_add _ _) ?_)
  refine va_sld hx hb hX hbl hbA hS (pk_in (i + 2) L (by omega)) dL_law_566 ?_
  refine lv_topi (nm_r (e' := xs (i + 2)) (by rw [nI_clamp (by omega)]) ?_)
  refine law_l (sl := (20000 + 300 * i + potm)) (wr := (wm ++ [(out, .inl (cs 1, 1, .inr (.inl og)))])) (ci := 11) (As := [.int (xs (i + 1)), .int (xs (i + 2))]) (rest := []) C (k_X11_exact hG (xs (i + 1)) (xs (i + 2)) hw) kL_67 hP hD hS (CW.mem hw) rfl rfl (by decide) ⟨Nat.le_of_ble_eq_true rfl, Nat.le_of_ble_eq_true rfl⟩ ⟨by show _ ≤ 601024; omega, by show _ ≤ 7293034; omega⟩ rfl hl.1 rfl (Nat.le_of_ble_eq_true rfl) dL_law_567 ?_
  clear hP hD hS
  try clear locs
  try clear H
  intro r_1 w_2 pot_3 H locs hp_4 hP hD hS
  refine W.widen (k := 300 + 120 * i + 200) (n := (20000 + 300 * i + 500 + potm) + pot_3) (by omega) (by omega) ?_
  obtain ⟨cN_8, cI_9, cF_10, cG_11, cP_12, cQ_13, hm_5, he_6, hw_7⟩ := hp_4
  have hb_14 := CW.pot hw_7
  refine lv_pop2_2 hx hb dL_law_570 rfl ?_
  refine lv_aload_n hx hb dL_law_571 rfl (lv_at hl 2 rfl) ?_
  refine lv_aload_n hx hb dL_law_572 rfl (lv_at hl 4 rfl) ?_
  refine lv_iload hx hb dL_law_573 (lv_at hl 0 rfl) ?_
  refine lv_iconst (v := nI 1) hx hb dL_law_575 (by decide) ?_
  refine lv_iadd hx hb dL_law_576 ?_
  refine lv_topi (nm_r (e' := nI (i + 1)) (nI_add _ _) ?_)
  refine va_sld hx hb hX hbl hbA hS (pk_in (i + 1) L (by omega)) dL_law_577 ?_
  refine lv_topi (nm_r (e' := xs (i + 1)) (by rw [nI_clamp (by omega)]) ?_)
  refine lv_aload_n hx hb dL_law_578 rfl (lv_at hl 4 rfl) ?_
  refine lv_iload hx hb dL_law_579 (lv_at hl 0 rfl) ?_
  refine lv_iconst (v := nI 2) hx hb dL_law_581 (by decide) ?_
  refine lv_iadd hx hb dL_law_582 ?_
  refine lv_topi (nm_r (e' := nI (i + 2)) (nI_add _ _) ?_)
  refine va_sld hx hb hX hbl hbA hS (pk_in (i + 2) L (by omega)) dL_law_583 ?_
  refine lv_topi (nm_r (e' := xs (i + 2)) (by rw [nI_clamp (by omega)]) ?_)
  replace hP := pP_perm permSwap hP
  replace hD := pD_perm permSwap hD
  refine W.widen (k := 300 + 120 * i + 200) (n := (20000 + 300 * i + 500 + pot_3) + potm) (by omega) (by omega) ?_
  refine law_l (sl := (20000 + 300 * i + 500 + pot_3)) (wr := (w_2 ++ [(out, .inl (cs 1, 1, .inr (.inl og)))])) (ci := 12) (As := [.int (xs (i + 1)), .int (xs (i + 2))]) (rest := []) C (k_X12_exact hG (xs (i + 1)) (xs (i + 2)) hmw) kL_71 hP hD hS (MW.mem hmw) rfl rfl (by decide) ⟨Nat.le_of_ble_eq_true rfl, Nat.le_of_ble_eq_true rfl⟩ ⟨by show _ ≤ 601024; omega, by show _ ≤ 7293034; omega⟩ rfl hl.1 rfl (Nat.le_of_ble_eq_true rfl) dL_law_584 ?_
  clear hP hD hS
  try clear locs
  try clear H
  intro r_15 w_16 pot_17 H locs hp_18 hP hD hS
  replace hP := pP_perm permSwap hP
  replace hD := pD_perm permSwap hD
  refine W.widen (k := 300 + 120 * i + 200 + 200) (n := (20000 + 300 * i + 500 + 500 + pot_17) + pot_3) (by omega) (by omega) ?_
  obtain ⟨mN_22, mI_23, mF_24, hm_19, he_20, hw_21⟩ := hp_18
  have hO_26 := hO.same he_20.1 hm_19 he_20.2.2.2.1
  have hR_25 := hR.same he_6.1 he_6.2.1 he_6.2.2.1 he_6.2.2.2.1 he_6.2.2.2.2.1 he_6.2.2.2.2.2.1 he_6.2.2.2.2.2.2.1 he_6.2.2.2.2.2.2.2.1 he_6.2.2.2.2.2.2.2.2.1 he_6.2.2.2.2.2.2.2.2.2.1 he_6.2.2.2.2.2.2.2.2.2.2.1 he_6.2.2.2.2.2.2.2.2.2.2.2.1 he_6.2.2.2.2.2.2.2.2.2.2.2.2.1 he_6.2.2.2.2.2.2.2.2.2.2.2.2.2.1 he_6.2.2.2.2.2.2.2.2.2.2.2.2.2.2.1 he_6.2.2.2.2.2.2.2.2.2.2.2.2.2.2.2.2.1 he_6.2.2.2.2.2.2.2.2.2.2.2.2.2.2.2.2.2.1 he_6.2.2.2.2.2.2.2.2.2.2.2.2.2.2.2.2.2.2.1 he_20.1 he_20.2.1 he_20.2.2.1 hm_19 he_20.2.2.2.1 he_20.2.2.2.2.1 he_20.2.2.2.2.2.1 he_20.2.2.2.2.2.2.1 he_20.2.2.2.2.2.2.2.1 he_20.2.2.2.2.2.2.2.2
  have hV_27 := hV.up (pr2 := pr) he_6.2.2.2.2.2.2.2.2.2.2.2.2.2.2.2.2.2.2.2.1 he_6.2.2.2.2.2.2.2.2.2.2.2.2.2.2.2.2.2.2.2.2.1 he_6.2.2.2.2.2.2.2.2.2.2.2.2.2.2.2.2.2.2.2.2.2.2.1 he_6.2.2.2.2.2.2.2.2.2.2.2.2.2.2.2.2.2.2.2.2.2.2.2 (Or.inl ⟨he_6.2.2.2.2.2.2.2.2.2.2.2.2.2.2.2.2.2.2.2.2.2.1, (fun j hj => (hm_19 j (by omega)).symm), rfl⟩)
  have hb_28 := MW.pot hw_21
  refine lv_pop2_2 hx hb dL_law_587 rfl ?_
  refine lv_goto (tgt := 1140) hx hb dL_law_588 (by decide) ?_
  refine lv_iinc (v := nI (i + 5)) (lv' := [(4, .int (nI (i + 5))), (3, .ref out), (2, .ref hm), (1, .ref h0), (0, .ref b)]) hx hb dL_law_1140 hl (k := 0) rfl (nI_add i 5) (by decide) rfl ?_
  clear hl
  try clear ls
  intro ls hl
  refine lv_goto (tgt := 23) hx hb dL_law_1143 (by decide) ?_
  exact W.widen (by omega) (by omega) (hnext n k al be en ea pr cN_8 cI_9 cF_10 cG_11 cP_12 cQ_13 mN_22 mI_23 mF_24 pot_3 pot_17 w_2 w_16 og _ _ _ hG hR_25 hO_26 (hV_27.mono (by omega)) hw_7 hw_21 hP hD hS (lv_sub hl [0, 1, 2, 3, 4] rfl))

set_option maxHeartbeats 4000000 in
set_option maxRecDepth 100000 in
theorem law_case_11 {p : Program} {e : Env} {s : State} {m : MethodId} {below : List Frame} {meth : Method} {c : Code} (l : Launch) (hfl : l.stackTraces = false) {D : va_G} {cs : Nat → ClassId} {A : Nat → Prop} {b L : Nat} {xs : Nat → Int32} (C : xC p room_1 s m #[Value.ref b] meth c ⟨"SampleHouseLaw", meth.name, ""⟩ code 7 ret D cs A) (hTH : xTH s) (hZ0 : xZ A s s.heap) (hX : va_X b L xs s s.heap) (hbl : b < s.heap.size) (hbA : ¬ A b) {h0 hm out i : Nat} (hL : L ≤ 2560) (hi : i + 5 ≤ L) (hnext : LawAt p l e s m below meth c D cs A b h0 hm out (i + 5)) {n k al be en : Nat} {ea pr : Int32} {cN : Nat → Nat} {cI : Nat → Int32} {cF : Nat → Nat → Int32} {cG : Nat → Nat → Nat → Int32} {cP : Nat → Nat → Nat → Int32} {cQ : Nat → Nat → Nat → Int32} {mN : Nat → Nat} {mI : Nat → Int32} {mF : Nat → Nat → Int32} {pot potm : Nat} {w wm : va_W} {og : Nat → Int64} (hG : GP n k al be en) (hR : RelB n be en ea pr cN cI cF cG cP cQ mN mI mF) (hO : OkM mN mF) (hV : RelS n k al be pr (1 + i) cN cI cG mF) (hw : CW cs h0 n k al be en ea pr cN cI cF cG cP cQ pot w) (hmw : MW cs hm n k al be en ea pr mN mI mF potm wm) {H : Heap} {locs : List Loc} {ls : Array Slot} (hP : va_P D vwCl (w ++ (wm ++ [(out, .inl (cs 1, 1, .inr (.inl og)))])) H) (hD : va_D A (w ++ (wm ++ [(out, .inl (cs 1, 1, .inr (.inl og)))]))) (hS : va_S A s.heap H locs) (hl : lv_has ls 7 [(4, .int (nI i)), (3, .ref out), (2, .ref hm), (1, .ref h0), (0, .ref b)]) : W p l e room_1 s m #[Value.ref b] below meth c H locs (300 + 120 * i) ((20000 + 300 * i + potm) + pot) (lw_Z below #[Value.ref b] s) (F0 m 591 ls []) := by
  have hx := C.1
  have hb := C.2.1
  have hz := C.2.2.2.2.1
  have hown := C.2.2.2.1
  have hA := C.2.2.2.2.2.2.2.2.2
  have hpot := hw.pot
  have hpotm := hmw.pot
  refine lv_aload_n hx hb dL_law_591 rfl (lv_at hl 3 rfl) ?_
  refine lv_aload_n hx hb dL_law_592 rfl (lv_at hl 4 rfl) ?_
  refine lv_iload hx hb dL_law_593 (lv_at hl 0 rfl) ?_
  refine lv_iconst (v := nI 1) hx hb dL_law_595 (by decide) ?_
  refine lv_iadd hx hb dL_law_596 ?_
  refine lv_topi (nm_r (e' := nI (i + 1)) (nI_add _ _) ?_)
  refine va_sld hx hb hX hbl hbA hS (pk_in (i + 1) L (by omega)) dL_law_597 ?_
  refine lv_topi (nm_r (e' := xs (i + 1)) (by rw [nI_clamp (by omega)]) ?_)
  refine lv_aload_n hx hb dL_law_598 rfl (lv_at hl 4 rfl) ?_
  refine lv_iload hx hb dL_law_599 (lv_at hl 0 rfl) ?_
  refine lv_iconst (v := nI 2) hx hb dL_law_601 (by decide) ?_
  refine lv_iadd hx hb dL_law_602 ?_
  refine lv_topi (nm_r (e' := nI (i + 2)) (nI_add _ _) ?_)
  refine va_sld hx hb hX hbl hbA hS (pk_in (i + 2) L (by omega)) dL_law_603 ?_
  refine lv_topi (nm_r (e' := xs (i + 2)) (by rw [nI_clamp (by omega)]) ?_)
  refine law_l (sl := (20000 + 300 * i + potm)) (wr := (wm ++ [(out, .inl (cs 1, 1, .inr (.inl og)))])) (ci := 11) (As := [.int (xs (i + 1)), .int (xs (i + 2))]) (rest := []) C (k_X11_colours hG (xs (i + 1)) (xs (i + 2)) hw) kL_72 hP hD hS (CW.mem hw) rfl rfl (by decide) ⟨Nat.le_of_ble_eq_true rfl, Nat.le_of_ble_eq_true rfl⟩ ⟨by show _ ≤ 601024; omega, by show _ ≤ 7293034; omega⟩ rfl hl.1 rfl (Nat.le_of_ble_eq_true rfl) dL_law_604 ?_
  clear hP hD hS
  try clear locs
  try clear H
  intro r_1 w_2 pot_3 H locs hp_4 hP hD hS
  refine W.widen (k := 300 + 120 * i + 200) (n := (20000 + 300 * i + 500 + potm) + pot_3) (by omega) (by omega) ?_
  obtain ⟨cN_8, cI_9, cF_10, cG_11, cP_12, cQ_13, hm_5, he_6, hw_7⟩ := hp_4
  have hb_14 := CW.pot hw_7
  refine lv_pop2_2 hx hb dL_law_607 rfl ?_
  refine lv_aload_n hx hb dL_law_608 rfl (lv_at hl 2 rfl) ?_
  refine lv_aload_n hx hb dL_law_609 rfl (lv_at hl 4 rfl) ?_
  refine lv_iload hx hb dL_law_610 (lv_at hl 0 rfl) ?_
  refine lv_iconst (v := nI 1) hx hb dL_law_612 (by decide) ?_
  refine lv_iadd hx hb dL_law_613 ?_
  refine lv_topi (nm_r (e' := nI (i + 1)) (nI_add _ _) ?_)
  refine va_sld hx hb hX hbl hbA hS (pk_in (i + 1) L (by omega)) dL_law_614 ?_
  refine lv_topi (nm_r (e' := xs (i + 1)) (by rw [nI_clamp (by omega)]) ?_)
  refine lv_aload_n hx hb dL_law_615 rfl (lv_at hl 4 rfl) ?_
  refine lv_iload hx hb dL_law_616 (lv_at hl 0 rfl) ?_
  refine lv_iconst (v := nI 2) hx hb dL_law_618 (by decide) ?_
  refine lv_iadd hx hb dL_law_619 ?_
  refine lv_topi (nm_r (e' := nI (i + 2)) (nI_add _ _) ?_)
  refine va_sld hx hb hX hbl hbA hS (pk_in (i + 2) L (by omega)) dL_law_620 ?_
  refine lv_topi (nm_r (e' := xs (i + 2)) (by rw [nI_clamp (by omega)]) ?_)
  replace hP := pP_perm permSwap hP
  replace hD := pD_perm permSwap hD
  refine W.widen (k := 300 + 120 * i + 200) (n := (20000 + 300 * i + 500 + pot_3) + potm) (by omega) (by omega) ?_
  refine law_l (sl := (20000 + 300 * i + 500 + pot_3)) (wr := (w_2 ++ [(out, .inl (cs 1, 1, .inr (.inl og)))])) (ci := 12) (As := [.int (xs (i + 1)), .int (xs (i + 2))]) (rest := []) C (k_X12_colours hG (xs (i + 1)) (xs (i + 2)) hmw) kL_75 hP hD hS (MW.mem hmw) rfl rfl (by decide) ⟨Nat.le_of_ble_eq_true rfl, Nat.le_of_ble_eq_true rfl⟩ ⟨by show _ ≤ 601024; omega, by show _ ≤ 7293034; omega⟩ rfl hl.1 rfl (Nat.le_of_ble_eq_true rfl) dL_law_621 ?_
  clear hP hD hS
  try clear locs
  try clear H
  intro r_15 w_16 pot_17 H locs hp_18 hP hD hS
  replace hP := pP_perm permSwap hP
  replace hD := pD_perm permSwap hD
  refine W.widen (k := 300 + 120 * i + 200 + 200) (n := (20000 + 300 * i + 500 + 500 + pot_17) + pot_3) (by omega) (by omega) ?_
  obtain ⟨mN_22, mI_23, mF_24, hm_19, he_20, hw_21⟩ := hp_18
  have hO_26 := hO.same he_20.1 hm_19 he_20.2.2.2.1
  have hR_25 := hR.same he_6.1 he_6.2.1 he_6.2.2.1 he_6.2.2.2.1 he_6.2.2.2.2.1 he_6.2.2.2.2.2.1 he_6.2.2.2.2.2.2.1 he_6.2.2.2.2.2.2.2.1 he_6.2.2.2.2.2.2.2.2.1 he_6.2.2.2.2.2.2.2.2.2.1 he_6.2.2.2.2.2.2.2.2.2.2.1 he_6.2.2.2.2.2.2.2.2.2.2.2.1 he_6.2.2.2.2.2.2.2.2.2.2.2.2.1 he_6.2.2.2.2.2.2.2.2.2.2.2.2.2.1 he_6.2.2.2.2.2.2.2.2.2.2.2.2.2.2.1 he_6.2.2.2.2.2.2.2.2.2.2.2.2.2.2.2.2.1 he_6.2.2.2.2.2.2.2.2.2.2.2.2.2.2.2.2.2.1 he_6.2.2.2.2.2.2.2.2.2.2.2.2.2.2.2.2.2.2.1 he_20.1 he_20.2.1 he_20.2.2.1 hm_19 he_20.2.2.2.1 he_20.2.2.2.2.1 he_20.2.2.2.2.2.1 he_20.2.2.2.2.2.2.1 he_20.2.2.2.2.2.2.2.1 he_20.2.2.2.2.2.2.2.2
  have hV_27 := hV.up (pr2 := pr) he_6.2.2.2.2.2.2.2.2.2.2.2.2.2.2.2.2.2.2.2.1 he_6.2.2.2.2.2.2.2.2.2.2.2.2.2.2.2.2.2.2.2.2.1 he_6.2.2.2.2.2.2.2.2.2.2.2.2.2.2.2.2.2.2.2.2.2.2.1 he_6.2.2.2.2.2.2.2.2.2.2.2.2.2.2.2.2.2.2.2.2.2.2.2 (Or.inl ⟨he_6.2.2.2.2.2.2.2.2.2.2.2.2.2.2.2.2.2.2.2.2.2.1, (fun j hj => (hm_19 j (by omega)).symm), rfl⟩)
  have hb_28 := MW.pot hw_21
  refine lv_pop2_2 hx hb dL_law_624 rfl ?_
  refine lv_goto (tgt := 1140) hx hb dL_law_625 (by decide) ?_
  refine lv_iinc (v := nI (i + 5)) (lv' := [(4, .int (nI (i + 5))), (3, .ref out), (2, .ref hm), (1, .ref h0), (0, .ref b)]) hx hb dL_law_1140 hl (k := 0) rfl (nI_add i 5) (by decide) rfl ?_
  clear hl
  try clear ls
  intro ls hl
  refine lv_goto (tgt := 23) hx hb dL_law_1143 (by decide) ?_
  exact W.widen (by omega) (by omega) (hnext n k al be en ea pr cN_8 cI_9 cF_10 cG_11 cP_12 cQ_13 mN_22 mI_23 mF_24 pot_3 pot_17 w_2 w_16 og _ _ _ hG hR_25 hO_26 (hV_27.mono (by omega)) hw_7 hw_21 hP hD hS (lv_sub hl [0, 1, 2, 3, 4] rfl))

set_option maxHeartbeats 4000000 in
set_option maxRecDepth 100000 in
theorem law_case_12 {p : Program} {e : Env} {s : State} {m : MethodId} {below : List Frame} {meth : Method} {c : Code} (l : Launch) (hfl : l.stackTraces = false) {D : va_G} {cs : Nat → ClassId} {A : Nat → Prop} {b L : Nat} {xs : Nat → Int32} (C : xC p room_1 s m #[Value.ref b] meth c ⟨"SampleHouseLaw", meth.name, ""⟩ code 7 ret D cs A) (hTH : xTH s) (hZ0 : xZ A s s.heap) (hX : va_X b L xs s s.heap) (hbl : b < s.heap.size) (hbA : ¬ A b) {h0 hm out i : Nat} (hL : L ≤ 2560) (hi : i + 5 ≤ L) (hnext : LawAt p l e s m below meth c D cs A b h0 hm out (i + 5)) {n k al be en : Nat} {ea pr : Int32} {cN : Nat → Nat} {cI : Nat → Int32} {cF : Nat → Nat → Int32} {cG : Nat → Nat → Nat → Int32} {cP : Nat → Nat → Nat → Int32} {cQ : Nat → Nat → Nat → Int32} {mN : Nat → Nat} {mI : Nat → Int32} {mF : Nat → Nat → Int32} {pot potm : Nat} {w wm : va_W} {og : Nat → Int64} (hG : GP n k al be en) (hR : RelB n be en ea pr cN cI cF cG cP cQ mN mI mF) (hO : OkM mN mF) (hV : RelS n k al be pr (1 + i) cN cI cG mF) (hw : CW cs h0 n k al be en ea pr cN cI cF cG cP cQ pot w) (hmw : MW cs hm n k al be en ea pr mN mI mF potm wm) {H : Heap} {locs : List Loc} {ls : Array Slot} (hP : va_P D vwCl (w ++ (wm ++ [(out, .inl (cs 1, 1, .inr (.inl og)))])) H) (hD : va_D A (w ++ (wm ++ [(out, .inl (cs 1, 1, .inr (.inl og)))]))) (hS : va_S A s.heap H locs) (hl : lv_has ls 7 [(4, .int (nI i)), (3, .ref out), (2, .ref hm), (1, .ref h0), (0, .ref b)]) : W p l e room_1 s m #[Value.ref b] below meth c H locs (300 + 120 * i) ((20000 + 300 * i + potm) + pot) (lw_Z below #[Value.ref b] s) (F0 m 628 ls []) := by
  have hx := C.1
  have hb := C.2.1
  have hz := C.2.2.2.2.1
  have hown := C.2.2.2.1
  have hA := C.2.2.2.2.2.2.2.2.2
  have hpot := hw.pot
  have hpotm := hmw.pot
  refine lv_aload_n hx hb dL_law_628 rfl (lv_at hl 3 rfl) ?_
  refine lv_aload_n hx hb dL_law_629 rfl (lv_at hl 4 rfl) ?_
  refine lv_iload hx hb dL_law_630 (lv_at hl 0 rfl) ?_
  refine lv_iconst (v := nI 1) hx hb dL_law_632 (by decide) ?_
  refine lv_iadd hx hb dL_law_633 ?_
  refine lv_topi (nm_r (e' := nI (i + 1)) (nI_add _ _) ?_)
  refine va_sld hx hb hX hbl hbA hS (pk_in (i + 1) L (by omega)) dL_law_634 ?_
  refine lv_topi (nm_r (e' := xs (i + 1)) (by rw [nI_clamp (by omega)]) ?_)
  refine law_i (sl := (20000 + 300 * i + potm)) (wr := (wm ++ [(out, .inl (cs 1, 1, .inr (.inl og)))])) (ci := 11) (As := [.int (xs (i + 1))]) (rest := []) C (k_X11_odds hG (xs (i + 1)) hw) kL_76 hP hD hS (CW.mem hw) rfl rfl (by decide) ⟨Nat.le_of_ble_eq_true rfl, Nat.le_of_ble_eq_true rfl⟩ ⟨by show _ ≤ 601024; omega, by show _ ≤ 7293034; omega⟩ rfl hl.1 rfl (Nat.le_of_ble_eq_true rfl) dL_law_635 ?_
  clear hP hD hS
  try clear locs
  try clear H
  intro r_1 w_2 pot_3 H locs hp_4 hP hD hS
  refine W.widen (k := 300 + 120 * i + 200) (n := (20000 + 300 * i + 500 + potm) + pot_3) (by omega) (by omega) ?_
  obtain ⟨cN_8, cI_9, cF_10, cG_11, cP_12, cQ_13, hm_5, he_6, hw_7⟩ := hp_4
  have hb_14 := CW.pot hw_7
  refine lv_pop hx hb dL_law_638 rfl ?_
  refine lv_aload_n hx hb dL_law_639 rfl (lv_at hl 2 rfl) ?_
  refine lv_aload_n hx hb dL_law_640 rfl (lv_at hl 4 rfl) ?_
  refine lv_iload hx hb dL_law_641 (lv_at hl 0 rfl) ?_
  refine lv_iconst (v := nI 1) hx hb dL_law_643 (by decide) ?_
  refine lv_iadd hx hb dL_law_644 ?_
  refine lv_topi (nm_r (e' := nI (i + 1)) (nI_add _ _) ?_)
  refine va_sld hx hb hX hbl hbA hS (pk_in (i + 1) L (by omega)) dL_law_645 ?_
  refine lv_topi (nm_r (e' := xs (i + 1)) (by rw [nI_clamp (by omega)]) ?_)
  replace hP := pP_perm permSwap hP
  replace hD := pD_perm permSwap hD
  refine W.widen (k := 300 + 120 * i + 200) (n := (20000 + 300 * i + 500 + pot_3) + potm) (by omega) (by omega) ?_
  refine law_i (sl := (20000 + 300 * i + 500 + pot_3)) (wr := (w_2 ++ [(out, .inl (cs 1, 1, .inr (.inl og)))])) (ci := 12) (As := [.int (xs (i + 1))]) (rest := []) C (k_X12_odds hG (xs (i + 1)) hmw) kL_79 hP hD hS (MW.mem hmw) rfl rfl (by decide) ⟨Nat.le_of_ble_eq_true rfl, Nat.le_of_ble_eq_true rfl⟩ ⟨by show _ ≤ 601024; omega, by show _ ≤ 7293034; omega⟩ rfl hl.1 rfl (Nat.le_of_ble_eq_true rfl) dL_law_646 ?_
  clear hP hD hS
  try clear locs
  try clear H
  intro r_15 w_16 pot_17 H locs hp_18 hP hD hS
  replace hP := pP_perm permSwap hP
  replace hD := pD_perm permSwap hD
  refine W.widen (k := 300 + 120 * i + 200 + 200) (n := (20000 + 300 * i + 500 + 500 + pot_17) + pot_3) (by omega) (by omega) ?_
  obtain ⟨mN_22, mI_23, mF_24, hm_19, he_20, hw_21⟩ := hp_18
  have hO_26 := hO.same he_20.1 hm_19 he_20.2.2.2.1
  have hR_25 := hR.same he_6.1 he_6.2.1 he_6.2.2.1 he_6.2.2.2.1 he_6.2.2.2.2.1 he_6.2.2.2.2.2.1 he_6.2.2.2.2.2.2.1 he_6.2.2.2.2.2.2.2.1 he_6.2.2.2.2.2.2.2.2.1 he_6.2.2.2.2.2.2.2.2.2.1 he_6.2.2.2.2.2.2.2.2.2.2.1 he_6.2.2.2.2.2.2.2.2.2.2.2.1 he_6.2.2.2.2.2.2.2.2.2.2.2.2.1 he_6.2.2.2.2.2.2.2.2.2.2.2.2.2.1 he_6.2.2.2.2.2.2.2.2.2.2.2.2.2.2.1 he_6.2.2.2.2.2.2.2.2.2.2.2.2.2.2.2.2.1 he_6.2.2.2.2.2.2.2.2.2.2.2.2.2.2.2.2.2.1 he_6.2.2.2.2.2.2.2.2.2.2.2.2.2.2.2.2.2.2.1 he_20.1 he_20.2.1 he_20.2.2.1 hm_19 he_20.2.2.2.1 he_20.2.2.2.2.1 he_20.2.2.2.2.2.1 he_20.2.2.2.2.2.2.1 he_20.2.2.2.2.2.2.2.1 he_20.2.2.2.2.2.2.2.2
  have hV_27 := hV.up (pr2 := pr) he_6.2.2.2.2.2.2.2.2.2.2.2.2.2.2.2.2.2.2.2.1 he_6.2.2.2.2.2.2.2.2.2.2.2.2.2.2.2.2.2.2.2.2.1 he_6.2.2.2.2.2.2.2.2.2.2.2.2.2.2.2.2.2.2.2.2.2.2.1 he_6.2.2.2.2.2.2.2.2.2.2.2.2.2.2.2.2.2.2.2.2.2.2.2 (Or.inl ⟨he_6.2.2.2.2.2.2.2.2.2.2.2.2.2.2.2.2.2.2.2.2.2.1, (fun j hj => (hm_19 j (by omega)).symm), rfl⟩)
  have hb_28 := MW.pot hw_21
  refine lv_pop hx hb dL_law_649 rfl ?_
  refine lv_goto (tgt := 1140) hx hb dL_law_650 (by decide) ?_
  refine lv_iinc (v := nI (i + 5)) (lv' := [(4, .int (nI (i + 5))), (3, .ref out), (2, .ref hm), (1, .ref h0), (0, .ref b)]) hx hb dL_law_1140 hl (k := 0) rfl (nI_add i 5) (by decide) rfl ?_
  clear hl
  try clear ls
  intro ls hl
  refine lv_goto (tgt := 23) hx hb dL_law_1143 (by decide) ?_
  exact W.widen (by omega) (by omega) (hnext n k al be en ea pr cN_8 cI_9 cF_10 cG_11 cP_12 cQ_13 mN_22 mI_23 mF_24 pot_3 pot_17 w_2 w_16 og _ _ _ hG hR_25 hO_26 (hV_27.mono (by omega)) hw_7 hw_21 hP hD hS (lv_sub hl [0, 1, 2, 3, 4] rfl))

set_option maxHeartbeats 4000000 in
set_option maxRecDepth 100000 in
theorem law_case_13 {p : Program} {e : Env} {s : State} {m : MethodId} {below : List Frame} {meth : Method} {c : Code} (l : Launch) (hfl : l.stackTraces = false) {D : va_G} {cs : Nat → ClassId} {A : Nat → Prop} {b L : Nat} {xs : Nat → Int32} (C : xC p room_1 s m #[Value.ref b] meth c ⟨"SampleHouseLaw", meth.name, ""⟩ code 7 ret D cs A) (hTH : xTH s) (hZ0 : xZ A s s.heap) (hX : va_X b L xs s s.heap) (hbl : b < s.heap.size) (hbA : ¬ A b) {h0 hm out i : Nat} (hL : L ≤ 2560) (hi : i + 5 ≤ L) (hnext : LawAt p l e s m below meth c D cs A b h0 hm out (i + 5)) {n k al be en : Nat} {ea pr : Int32} {cN : Nat → Nat} {cI : Nat → Int32} {cF : Nat → Nat → Int32} {cG : Nat → Nat → Nat → Int32} {cP : Nat → Nat → Nat → Int32} {cQ : Nat → Nat → Nat → Int32} {mN : Nat → Nat} {mI : Nat → Int32} {mF : Nat → Nat → Int32} {pot potm : Nat} {w wm : va_W} {og : Nat → Int64} (hG : GP n k al be en) (hR : RelB n be en ea pr cN cI cF cG cP cQ mN mI mF) (hO : OkM mN mF) (hV : RelS n k al be pr (1 + i) cN cI cG mF) (hw : CW cs h0 n k al be en ea pr cN cI cF cG cP cQ pot w) (hmw : MW cs hm n k al be en ea pr mN mI mF potm wm) {H : Heap} {locs : List Loc} {ls : Array Slot} (hP : va_P D vwCl (w ++ (wm ++ [(out, .inl (cs 1, 1, .inr (.inl og)))])) H) (hD : va_D A (w ++ (wm ++ [(out, .inl (cs 1, 1, .inr (.inl og)))]))) (hS : va_S A s.heap H locs) (hl : lv_has ls 7 [(4, .int (nI i)), (3, .ref out), (2, .ref hm), (1, .ref h0), (0, .ref b)]) : W p l e room_1 s m #[Value.ref b] below meth c H locs (300 + 120 * i) ((20000 + 300 * i + potm) + pot) (lw_Z below #[Value.ref b] s) (F0 m 653 ls []) := by
  have hx := C.1
  have hb := C.2.1
  have hz := C.2.2.2.2.1
  have hown := C.2.2.2.1
  have hA := C.2.2.2.2.2.2.2.2.2
  have hpot := hw.pot
  have hpotm := hmw.pot
  refine lv_aload_n hx hb dL_law_653 rfl (lv_at hl 3 rfl) ?_
  refine law_i (sl := (20000 + 300 * i + potm)) (wr := (wm ++ [(out, .inl (cs 1, 1, .inr (.inl og)))])) (ci := 11) (As := []) (rest := []) C (k_X11_soonest hG hR.relR hO.1 (hV.hse hG) hV.1.2.2 hw) kL_80 hP hD hS (CW.mem hw) rfl rfl (by decide) ⟨Nat.le_of_ble_eq_true rfl, Nat.le_of_ble_eq_true rfl⟩ ⟨by show _ ≤ 601024; omega, by show _ ≤ 7293034; omega⟩ rfl hl.1 rfl (Nat.le_of_ble_eq_true rfl) dL_law_654 ?_
  clear hP hD hS
  try clear locs
  try clear H
  intro r_1 w_2 pot_3 H locs hp_4 hP hD hS
  refine W.widen (k := 300 + 120 * i + 200) (n := (20000 + 300 * i + 500 + potm) + pot_3) (by omega) (by omega) ?_
  obtain ⟨cN_8, cI_9, cF_10, cG_11, cP_12, cQ_13, hm_5, he_6, hw_7⟩ := hp_4
  have hb_14 := CW.pot hw_7
  refine lv_aload_n hx hb dL_law_657 rfl (lv_at hl 2 rfl) ?_
  replace hP := pP_perm permSwap hP
  replace hD := pD_perm permSwap hD
  refine W.widen (k := 300 + 120 * i + 200) (n := (20000 + 300 * i + 500 + pot_3) + potm) (by omega) (by omega) ?_
  refine law_i (sl := (20000 + 300 * i + 500 + pot_3)) (wr := (w_2 ++ [(out, .inl (cs 1, 1, .inr (.inl og)))])) (ci := 12) (As := []) (rest := [.int r_1]) C (k_X12_soonest hG hR.1 hR.row1 hmw) kL_84 hP hD hS (MW.mem hmw) rfl rfl (by decide) ⟨Nat.le_of_ble_eq_true rfl, Nat.le_of_ble_eq_true rfl⟩ ⟨by show _ ≤ 601024; omega, by show _ ≤ 7293034; omega⟩ rfl hl.1 rfl (Nat.le_of_ble_eq_true rfl) dL_law_658 ?_
  clear hP hD hS
  try clear locs
  try clear H
  intro r_15 w_16 pot_17 H locs hp_18 hP hD hS
  replace hP := pP_perm permSwap hP
  replace hD := pD_perm permSwap hD
  refine W.widen (k := 300 + 120 * i + 200 + 200) (n := (20000 + 300 * i + 500 + 500 + pot_17) + pot_3) (by omega) (by omega) ?_
  obtain ⟨mN_22, mI_23, mF_24, hm_19, he_20, hw_21⟩ := hp_18
  have hO_26 := hO.same he_20.1 hm_19.1 he_20.2.2.2.1
  have hR_25 := hR.same he_6.1 he_6.2.1 he_6.2.2.1 he_6.2.2.2.1 he_6.2.2.2.2.1 he_6.2.2.2.2.2.1 he_6.2.2.2.2.2.2.1 he_6.2.2.2.2.2.2.2.1 he_6.2.2.2.2.2.2.2.2.1 he_6.2.2.2.2.2.2.2.2.2.1 he_6.2.2.2.2.2.2.2.2.2.2.1 he_6.2.2.2.2.2.2.2.2.2.2.2.1 he_6.2.2.2.2.2.2.2.2.2.2.2.2.1 he_6.2.2.2.2.2.2.2.2.2.2.2.2.2.1 he_6.2.2.2.2.2.2.2.2.2.2.2.2.2.2.1 he_6.2.2.2.2.2.2.2.2.2.2.2.2.2.2.2.2.1 he_6.2.2.2.2.2.2.2.2.2.2.2.2.2.2.2.2.2.1 he_6.2.2.2.2.2.2.2.2.2.2.2.2.2.2.2.2.2.2.1 he_20.1 he_20.2.1 he_20.2.2.1 hm_19.1 he_20.2.2.2.1 he_20.2.2.2.2.1 he_20.2.2.2.2.2.1 he_20.2.2.2.2.2.2.1 he_20.2.2.2.2.2.2.2.1 he_20.2.2.2.2.2.2.2.2
  have hV_27 := hV.fnd he_6.2.2.2.2.2.2.2.2.2.2.2.2.2.2.2.2.2.2.2.1 he_6.2.2.2.2.2.2.2.2.2.2.2.2.2.2.2.2.2.2.2.2.1 he_6.2.2.2.2.2.2.2.2.2.2.2.2.2.2.2.2.2.2.2.2.2 (fun j hj => (hm_19.1 j (by omega)).symm) (hm_5.elim (fun q => Or.inl ⟨q.2.2.1, q.2.2.2⟩) (fun q => Or.inr ⟨by rw [q.2.1]; exact q.1, q.2.2⟩))
  have hb_28 := MW.pot hw_21
  refine lv_icmp_eq (tgt := 1140) hx hb dL_law_661 (by decide) (fun _ => ?_) (fun c => absurd (br_soonest hG hV (by omega) hm_5 hm_19) c)
  refine lv_iinc (v := nI (i + 5)) (lv' := [(4, .int (nI (i + 5))), (3, .ref out), (2, .ref hm), (1, .ref h0), (0, .ref b)]) hx hb dL_law_1140 hl (k := 0) rfl (nI_add i 5) (by decide) rfl ?_
  clear hl
  try clear ls
  intro ls hl
  refine lv_goto (tgt := 23) hx hb dL_law_1143 (by decide) ?_
  exact W.widen (by omega) (by omega) (hnext n k al be en ea pr cN_8 cI_9 cF_10 cG_11 cP_12 cQ_13 mN_22 mI_23 mF_24 pot_3 pot_17 w_2 w_16 og _ _ _ hG hR_25 hO_26 (hV_27.mono (by omega)) hw_7 hw_21 hP hD hS (lv_sub hl [0, 1, 2, 3, 4] rfl))

set_option maxHeartbeats 4000000 in
set_option maxRecDepth 100000 in
theorem law_case_14 {p : Program} {e : Env} {s : State} {m : MethodId} {below : List Frame} {meth : Method} {c : Code} (l : Launch) (hfl : l.stackTraces = false) {D : va_G} {cs : Nat → ClassId} {A : Nat → Prop} {b L : Nat} {xs : Nat → Int32} (C : xC p room_1 s m #[Value.ref b] meth c ⟨"SampleHouseLaw", meth.name, ""⟩ code 7 ret D cs A) (hTH : xTH s) (hZ0 : xZ A s s.heap) (hX : va_X b L xs s s.heap) (hbl : b < s.heap.size) (hbA : ¬ A b) {h0 hm out i : Nat} (hL : L ≤ 2560) (hi : i + 5 ≤ L) (hnext : LawAt p l e s m below meth c D cs A b h0 hm out (i + 5)) {n k al be en : Nat} {ea pr : Int32} {cN : Nat → Nat} {cI : Nat → Int32} {cF : Nat → Nat → Int32} {cG : Nat → Nat → Nat → Int32} {cP : Nat → Nat → Nat → Int32} {cQ : Nat → Nat → Nat → Int32} {mN : Nat → Nat} {mI : Nat → Int32} {mF : Nat → Nat → Int32} {pot potm : Nat} {w wm : va_W} {og : Nat → Int64} (hG : GP n k al be en) (hR : RelB n be en ea pr cN cI cF cG cP cQ mN mI mF) (hO : OkM mN mF) (hV : RelS n k al be pr (1 + i) cN cI cG mF) (hw : CW cs h0 n k al be en ea pr cN cI cF cG cP cQ pot w) (hmw : MW cs hm n k al be en ea pr mN mI mF potm wm) {H : Heap} {locs : List Loc} {ls : Array Slot} (hP : va_P D vwCl (w ++ (wm ++ [(out, .inl (cs 1, 1, .inr (.inl og)))])) H) (hD : va_D A (w ++ (wm ++ [(out, .inl (cs 1, 1, .inr (.inl og)))]))) (hS : va_S A s.heap H locs) (hl : lv_has ls 7 [(4, .int (nI i)), (3, .ref out), (2, .ref hm), (1, .ref h0), (0, .ref b)]) : W p l e room_1 s m #[Value.ref b] below meth c H locs (300 + 120 * i) ((20000 + 300 * i + potm) + pot) (lw_Z below #[Value.ref b] s) (F0 m 666 ls []) := by
  have hx := C.1
  have hb := C.2.1
  have hz := C.2.2.2.2.1
  have hown := C.2.2.2.1
  have hA := C.2.2.2.2.2.2.2.2.2
  have hpot := hw.pot
  have hpotm := hmw.pot
  refine lv_aload_n hx hb dL_law_666 rfl (lv_at hl 3 rfl) ?_
  refine lv_aload_n hx hb dL_law_667 rfl (lv_at hl 4 rfl) ?_
  refine lv_iload hx hb dL_law_668 (lv_at hl 0 rfl) ?_
  refine lv_iconst (v := nI 1) hx hb dL_law_670 (by decide) ?_
  refine lv_iadd hx hb dL_law_671 ?_
  refine lv_topi (nm_r (e' := nI (i + 1)) (nI_add _ _) ?_)
  refine va_sld hx hb hX hbl hbA hS (pk_in (i + 1) L (by omega)) dL_law_672 ?_
  refine lv_topi (nm_r (e' := xs (i + 1)) (by rw [nI_clamp (by omega)]) ?_)
  refine lv_aload_n hx hb dL_law_673 rfl (lv_at hl 4 rfl) ?_
  refine lv_iload hx hb dL_law_674 (lv_at hl 0 rfl) ?_
  refine lv_iconst (v := nI 2) hx hb dL_law_676 (by decide) ?_
  refine lv_iadd hx hb dL_law_677 ?_
  refine lv_topi (nm_r (e' := nI (i + 2)) (nI_add _ _) ?_)
  refine va_sld hx hb hX hbl hbA hS (pk_in (i + 2) L (by omega)) dL_law_678 ?_
  refine lv_topi (nm_r (e' := xs (i + 2)) (by rw [nI_clamp (by omega)]) ?_)
  refine law_i (sl := (20000 + 300 * i + potm)) (wr := (wm ++ [(out, .inl (cs 1, 1, .inr (.inl og)))])) (ci := 11) (As := [.int (xs (i + 1)), .int (xs (i + 2))]) (rest := []) C (k_X11_way hG (xs (i + 1)) (xs (i + 2)) hR.relR hO.1 (hV.hse hG) hV.1.2.2 hw) kL_85 hP hD hS (CW.mem hw) rfl rfl (by decide) ⟨Nat.le_of_ble_eq_true rfl, Nat.le_of_ble_eq_true rfl⟩ ⟨by show _ ≤ 601024; omega, by show _ ≤ 7293034; omega⟩ rfl hl.1 rfl (Nat.le_of_ble_eq_true rfl) dL_law_679 ?_
  clear hP hD hS
  try clear locs
  try clear H
  intro r_1 w_2 pot_3 H locs hp_4 hP hD hS
  refine W.widen (k := 300 + 120 * i + 200) (n := (20000 + 300 * i + 500 + potm) + pot_3) (by omega) (by omega) ?_
  obtain ⟨cN_8, cI_9, cF_10, cG_11, cP_12, cQ_13, hm_5, he_6, hw_7⟩ := hp_4
  have hb_14 := CW.pot hw_7
  refine lv_pop hx hb dL_law_682 rfl ?_
  refine lv_aload_n hx hb dL_law_683 rfl (lv_at hl 2 rfl) ?_
  refine lv_aload_n hx hb dL_law_684 rfl (lv_at hl 4 rfl) ?_
  refine lv_iload hx hb dL_law_685 (lv_at hl 0 rfl) ?_
  refine lv_iconst (v := nI 1) hx hb dL_law_687 (by decide) ?_
  refine lv_iadd hx hb dL_law_688 ?_
  refine lv_topi (nm_r (e' := nI (i + 1)) (nI_add _ _) ?_)
  refine va_sld hx hb hX hbl hbA hS (pk_in (i + 1) L (by omega)) dL_law_689 ?_
  refine lv_topi (nm_r (e' := xs (i + 1)) (by rw [nI_clamp (by omega)]) ?_)
  refine lv_aload_n hx hb dL_law_690 rfl (lv_at hl 4 rfl) ?_
  refine lv_iload hx hb dL_law_691 (lv_at hl 0 rfl) ?_
  refine lv_iconst (v := nI 2) hx hb dL_law_693 (by decide) ?_
  refine lv_iadd hx hb dL_law_694 ?_
  refine lv_topi (nm_r (e' := nI (i + 2)) (nI_add _ _) ?_)
  refine va_sld hx hb hX hbl hbA hS (pk_in (i + 2) L (by omega)) dL_law_695 ?_
  refine lv_topi (nm_r (e' := xs (i + 2)) (by rw [nI_clamp (by omega)]) ?_)
  replace hP := pP_perm permSwap hP
  replace hD := pD_perm permSwap hD
  refine W.widen (k := 300 + 120 * i + 200) (n := (20000 + 300 * i + 500 + pot_3) + potm) (by omega) (by omega) ?_
  refine law_i (sl := (20000 + 300 * i + 500 + pot_3)) (wr := (w_2 ++ [(out, .inl (cs 1, 1, .inr (.inl og)))])) (ci := 12) (As := [.int (xs (i + 1)), .int (xs (i + 2))]) (rest := []) C (k_X12_way hG (xs (i + 1)) (xs (i + 2)) hmw) kL_88 hP hD hS (MW.mem hmw) rfl rfl (by decide) ⟨Nat.le_of_ble_eq_true rfl, Nat.le_of_ble_eq_true rfl⟩ ⟨by show _ ≤ 601024; omega, by show _ ≤ 7293034; omega⟩ rfl hl.1 rfl (Nat.le_of_ble_eq_true rfl) dL_law_696 ?_
  clear hP hD hS
  try clear locs
  try clear H
  intro r_15 w_16 pot_17 H locs hp_18 hP hD hS
  replace hP := pP_perm permSwap hP
  replace hD := pD_perm permSwap hD
  refine W.widen (k := 300 + 120 * i + 200 + 200) (n := (20000 + 300 * i + 500 + 500 + pot_17) + pot_3) (by omega) (by omega) ?_
  obtain ⟨mN_22, mI_23, mF_24, hm_19, he_20, hw_21⟩ := hp_18
  have hO_26 := hO.same he_20.1 hm_19 he_20.2.2.2.1
  have hR_25 := hR.same he_6.1 he_6.2.1 he_6.2.2.1 he_6.2.2.2.1 he_6.2.2.2.2.1 he_6.2.2.2.2.2.1 he_6.2.2.2.2.2.2.1 he_6.2.2.2.2.2.2.2.1 he_6.2.2.2.2.2.2.2.2.1 he_6.2.2.2.2.2.2.2.2.2.1 he_6.2.2.2.2.2.2.2.2.2.2.1 he_6.2.2.2.2.2.2.2.2.2.2.2.1 he_6.2.2.2.2.2.2.2.2.2.2.2.2.1 he_6.2.2.2.2.2.2.2.2.2.2.2.2.2.1 he_6.2.2.2.2.2.2.2.2.2.2.2.2.2.2.1 he_6.2.2.2.2.2.2.2.2.2.2.2.2.2.2.2.2.1 he_6.2.2.2.2.2.2.2.2.2.2.2.2.2.2.2.2.2.1 he_6.2.2.2.2.2.2.2.2.2.2.2.2.2.2.2.2.2.2.1 he_20.1 he_20.2.1 he_20.2.2.1 hm_19 he_20.2.2.2.1 he_20.2.2.2.2.1 he_20.2.2.2.2.2.1 he_20.2.2.2.2.2.2.1 he_20.2.2.2.2.2.2.2.1 he_20.2.2.2.2.2.2.2.2
  have hV_27 := hV.fnd he_6.2.2.2.2.2.2.2.2.2.2.2.2.2.2.2.2.2.2.2.1 he_6.2.2.2.2.2.2.2.2.2.2.2.2.2.2.2.2.2.2.2.2.1 he_6.2.2.2.2.2.2.2.2.2.2.2.2.2.2.2.2.2.2.2.2.2 (fun j hj => (hm_19 j (by omega)).symm) hm_5
  have hb_28 := MW.pot hw_21
  refine lv_pop hx hb dL_law_699 rfl ?_
  refine lv_goto (tgt := 1140) hx hb dL_law_700 (by decide) ?_
  refine lv_iinc (v := nI (i + 5)) (lv' := [(4, .int (nI (i + 5))), (3, .ref out), (2, .ref hm), (1, .ref h0), (0, .ref b)]) hx hb dL_law_1140 hl (k := 0) rfl (nI_add i 5) (by decide) rfl ?_
  clear hl
  try clear ls
  intro ls hl
  refine lv_goto (tgt := 23) hx hb dL_law_1143 (by decide) ?_
  exact W.widen (by omega) (by omega) (hnext n k al be en ea pr cN_8 cI_9 cF_10 cG_11 cP_12 cQ_13 mN_22 mI_23 mF_24 pot_3 pot_17 w_2 w_16 og _ _ _ hG hR_25 hO_26 (hV_27.mono (by omega)) hw_7 hw_21 hP hD hS (lv_sub hl [0, 1, 2, 3, 4] rfl))

set_option maxHeartbeats 4000000 in
set_option maxRecDepth 100000 in
theorem law_case_15 {p : Program} {e : Env} {s : State} {m : MethodId} {below : List Frame} {meth : Method} {c : Code} (l : Launch) (hfl : l.stackTraces = false) {D : va_G} {cs : Nat → ClassId} {A : Nat → Prop} {b L : Nat} {xs : Nat → Int32} (C : xC p room_1 s m #[Value.ref b] meth c ⟨"SampleHouseLaw", meth.name, ""⟩ code 7 ret D cs A) (hTH : xTH s) (hZ0 : xZ A s s.heap) (hX : va_X b L xs s s.heap) (hbl : b < s.heap.size) (hbA : ¬ A b) {h0 hm out i : Nat} (hL : L ≤ 2560) (hi : i + 5 ≤ L) (hnext : LawAt p l e s m below meth c D cs A b h0 hm out (i + 5)) {n k al be en : Nat} {ea pr : Int32} {cN : Nat → Nat} {cI : Nat → Int32} {cF : Nat → Nat → Int32} {cG : Nat → Nat → Nat → Int32} {cP : Nat → Nat → Nat → Int32} {cQ : Nat → Nat → Nat → Int32} {mN : Nat → Nat} {mI : Nat → Int32} {mF : Nat → Nat → Int32} {pot potm : Nat} {w wm : va_W} {og : Nat → Int64} (hG : GP n k al be en) (hR : RelB n be en ea pr cN cI cF cG cP cQ mN mI mF) (hO : OkM mN mF) (hV : RelS n k al be pr (1 + i) cN cI cG mF) (hw : CW cs h0 n k al be en ea pr cN cI cF cG cP cQ pot w) (hmw : MW cs hm n k al be en ea pr mN mI mF potm wm) {H : Heap} {locs : List Loc} {ls : Array Slot} (hP : va_P D vwCl (w ++ (wm ++ [(out, .inl (cs 1, 1, .inr (.inl og)))])) H) (hD : va_D A (w ++ (wm ++ [(out, .inl (cs 1, 1, .inr (.inl og)))]))) (hS : va_S A s.heap H locs) (hl : lv_has ls 7 [(4, .int (nI i)), (3, .ref out), (2, .ref hm), (1, .ref h0), (0, .ref b)]) : W p l e room_1 s m #[Value.ref b] below meth c H locs (300 + 120 * i) ((20000 + 300 * i + potm) + pot) (lw_Z below #[Value.ref b] s) (F0 m 703 ls []) := by
  have hx := C.1
  have hb := C.2.1
  have hz := C.2.2.2.2.1
  have hown := C.2.2.2.1
  have hA := C.2.2.2.2.2.2.2.2.2
  have hpot := hw.pot
  have hpotm := hmw.pot
  refine lv_aload_n hx hb dL_law_703 rfl (lv_at hl 3 rfl) ?_
  refine lv_aload_n hx hb dL_law_704 rfl (lv_at hl 4 rfl) ?_
  refine lv_iload hx hb dL_law_705 (lv_at hl 0 rfl) ?_
  refine lv_iconst (v := nI 1) hx hb dL_law_707 (by decide) ?_
  refine lv_iadd hx hb dL_law_708 ?_
  refine lv_topi (nm_r (e' := nI (i + 1)) (nI_add _ _) ?_)
  refine va_sld hx hb hX hbl hbA hS (pk_in (i + 1) L (by omega)) dL_law_709 ?_
  refine lv_topi (nm_r (e' := xs (i + 1)) (by rw [nI_clamp (by omega)]) ?_)
  refine lv_aload_n hx hb dL_law_710 rfl (lv_at hl 4 rfl) ?_
  refine lv_iload hx hb dL_law_711 (lv_at hl 0 rfl) ?_
  refine lv_iconst (v := nI 2) hx hb dL_law_713 (by decide) ?_
  refine lv_iadd hx hb dL_law_714 ?_
  refine lv_topi (nm_r (e' := nI (i + 2)) (nI_add _ _) ?_)
  refine va_sld hx hb hX hbl hbA hS (pk_in (i + 2) L (by omega)) dL_law_715 ?_
  refine lv_topi (nm_r (e' := xs (i + 2)) (by rw [nI_clamp (by omega)]) ?_)
  refine law_l (sl := (20000 + 300 * i + potm)) (wr := (wm ++ [(out, .inl (cs 1, 1, .inr (.inl og)))])) (ci := 11) (As := [.int (xs (i + 1)), .int (xs (i + 2))]) (rest := []) C (k_X11_chain hG (xs (i + 1)) (xs (i + 2)) hw) kL_89 hP hD hS (CW.mem hw) rfl rfl (by decide) ⟨Nat.le_of_ble_eq_true rfl, Nat.le_of_ble_eq_true rfl⟩ ⟨by show _ ≤ 601024; omega, by show _ ≤ 7293034; omega⟩ rfl hl.1 rfl (Nat.le_of_ble_eq_true rfl) dL_law_716 ?_
  clear hP hD hS
  try clear locs
  try clear H
  intro r_1 w_2 pot_3 H locs hp_4 hP hD hS
  refine W.widen (k := 300 + 120 * i + 200) (n := (20000 + 300 * i + 500 + potm) + pot_3) (by omega) (by omega) ?_
  obtain ⟨cN_8, cI_9, cF_10, cG_11, cP_12, cQ_13, hm_5, he_6, hw_7⟩ := hp_4
  have hb_14 := CW.pot hw_7
  refine lv_pop2_2 hx hb dL_law_719 rfl ?_
  refine lv_aload_n hx hb dL_law_720 rfl (lv_at hl 2 rfl) ?_
  refine lv_aload_n hx hb dL_law_721 rfl (lv_at hl 4 rfl) ?_
  refine lv_iload hx hb dL_law_722 (lv_at hl 0 rfl) ?_
  refine lv_iconst (v := nI 1) hx hb dL_law_724 (by decide) ?_
  refine lv_iadd hx hb dL_law_725 ?_
  refine lv_topi (nm_r (e' := nI (i + 1)) (nI_add _ _) ?_)
  refine va_sld hx hb hX hbl hbA hS (pk_in (i + 1) L (by omega)) dL_law_726 ?_
  refine lv_topi (nm_r (e' := xs (i + 1)) (by rw [nI_clamp (by omega)]) ?_)
  refine lv_aload_n hx hb dL_law_727 rfl (lv_at hl 4 rfl) ?_
  refine lv_iload hx hb dL_law_728 (lv_at hl 0 rfl) ?_
  refine lv_iconst (v := nI 2) hx hb dL_law_730 (by decide) ?_
  refine lv_iadd hx hb dL_law_731 ?_
  refine lv_topi (nm_r (e' := nI (i + 2)) (nI_add _ _) ?_)
  refine va_sld hx hb hX hbl hbA hS (pk_in (i + 2) L (by omega)) dL_law_732 ?_
  refine lv_topi (nm_r (e' := xs (i + 2)) (by rw [nI_clamp (by omega)]) ?_)
  replace hP := pP_perm permSwap hP
  replace hD := pD_perm permSwap hD
  refine W.widen (k := 300 + 120 * i + 200) (n := (20000 + 300 * i + 500 + pot_3) + potm) (by omega) (by omega) ?_
  refine law_l (sl := (20000 + 300 * i + 500 + pot_3)) (wr := (w_2 ++ [(out, .inl (cs 1, 1, .inr (.inl og)))])) (ci := 12) (As := [.int (xs (i + 1)), .int (xs (i + 2))]) (rest := []) C (k_X12_chain hG (xs (i + 1)) (xs (i + 2)) hmw) kL_92 hP hD hS (MW.mem hmw) rfl rfl (by decide) ⟨Nat.le_of_ble_eq_true rfl, Nat.le_of_ble_eq_true rfl⟩ ⟨by show _ ≤ 601024; omega, by show _ ≤ 7293034; omega⟩ rfl hl.1 rfl (Nat.le_of_ble_eq_true rfl) dL_law_733 ?_
  clear hP hD hS
  try clear locs
  try clear H
  intro r_15 w_16 pot_17 H locs hp_18 hP hD hS
  replace hP := pP_perm permSwap hP
  replace hD := pD_perm permSwap hD
  refine W.widen (k := 300 + 120 * i + 200 + 200) (n := (20000 + 300 * i + 500 + 500 + pot_17) + pot_3) (by omega) (by omega) ?_
  obtain ⟨mN_22, mI_23, mF_24, hm_19, he_20, hw_21⟩ := hp_18
  have hO_26 := hO.same he_20.1 (fun j _ => congrFun he_20.2.2.2.1 j) he_20.2.2.2.2.1
  have hR_25 := hR.same he_6.1 he_6.2.1 he_6.2.2.1 he_6.2.2.2.1 he_6.2.2.2.2.1 he_6.2.2.2.2.2.1 he_6.2.2.2.2.2.2.1 he_6.2.2.2.2.2.2.2.1 he_6.2.2.2.2.2.2.2.2.1 he_6.2.2.2.2.2.2.2.2.2.1 he_6.2.2.2.2.2.2.2.2.2.2.1 he_6.2.2.2.2.2.2.2.2.2.2.2.1 he_6.2.2.2.2.2.2.2.2.2.2.2.2.1 he_6.2.2.2.2.2.2.2.2.2.2.2.2.2.1 he_6.2.2.2.2.2.2.2.2.2.2.2.2.2.2.1 he_6.2.2.2.2.2.2.2.2.2.2.2.2.2.2.2.2.1 he_6.2.2.2.2.2.2.2.2.2.2.2.2.2.2.2.2.2.1 he_6.2.2.2.2.2.2.2.2.2.2.2.2.2.2.2.2.2.2.1 he_20.1 he_20.2.1 he_20.2.2.1 (fun j _ => congrFun he_20.2.2.2.1 j) he_20.2.2.2.2.1 he_20.2.2.2.2.2.1 he_20.2.2.2.2.2.2.1 he_20.2.2.2.2.2.2.2.1 he_20.2.2.2.2.2.2.2.2.1 he_20.2.2.2.2.2.2.2.2.2
  have hV_27 := hV.up (pr2 := pr) he_6.2.2.2.2.2.2.2.2.2.2.2.2.2.2.2.2.2.2.2.1 he_6.2.2.2.2.2.2.2.2.2.2.2.2.2.2.2.2.2.2.2.2.1 he_6.2.2.2.2.2.2.2.2.2.2.2.2.2.2.2.2.2.2.2.2.2.2.1 he_6.2.2.2.2.2.2.2.2.2.2.2.2.2.2.2.2.2.2.2.2.2.2.2 (Or.inl ⟨he_6.2.2.2.2.2.2.2.2.2.2.2.2.2.2.2.2.2.2.2.2.2.1, (fun j hj => ((fun j _ => congrFun he_20.2.2.2.1 j) j (by omega)).symm), rfl⟩)
  have hb_28 := MW.pot hw_21
  refine lv_pop2_2 hx hb dL_law_736 rfl ?_
  refine lv_goto (tgt := 1140) hx hb dL_law_737 (by decide) ?_
  refine lv_iinc (v := nI (i + 5)) (lv' := [(4, .int (nI (i + 5))), (3, .ref out), (2, .ref hm), (1, .ref h0), (0, .ref b)]) hx hb dL_law_1140 hl (k := 0) rfl (nI_add i 5) (by decide) rfl ?_
  clear hl
  try clear ls
  intro ls hl
  refine lv_goto (tgt := 23) hx hb dL_law_1143 (by decide) ?_
  exact W.widen (by omega) (by omega) (hnext n k al be en ea pr cN_8 cI_9 cF_10 cG_11 cP_12 cQ_13 mN_22 mI_23 mF_24 pot_3 pot_17 w_2 w_16 og _ _ _ hG hR_25 hO_26 (hV_27.mono (by omega)) hw_7 hw_21 hP hD hS (lv_sub hl [0, 1, 2, 3, 4] rfl))

set_option maxHeartbeats 4000000 in
set_option maxRecDepth 100000 in
theorem law_case_16 {p : Program} {e : Env} {s : State} {m : MethodId} {below : List Frame} {meth : Method} {c : Code} (l : Launch) (hfl : l.stackTraces = false) {D : va_G} {cs : Nat → ClassId} {A : Nat → Prop} {b L : Nat} {xs : Nat → Int32} (C : xC p room_1 s m #[Value.ref b] meth c ⟨"SampleHouseLaw", meth.name, ""⟩ code 7 ret D cs A) (hTH : xTH s) (hZ0 : xZ A s s.heap) (hX : va_X b L xs s s.heap) (hbl : b < s.heap.size) (hbA : ¬ A b) {h0 hm out i : Nat} (hL : L ≤ 2560) (hi : i + 5 ≤ L) (hnext : LawAt p l e s m below meth c D cs A b h0 hm out (i + 5)) {n k al be en : Nat} {ea pr : Int32} {cN : Nat → Nat} {cI : Nat → Int32} {cF : Nat → Nat → Int32} {cG : Nat → Nat → Nat → Int32} {cP : Nat → Nat → Nat → Int32} {cQ : Nat → Nat → Nat → Int32} {mN : Nat → Nat} {mI : Nat → Int32} {mF : Nat → Nat → Int32} {pot potm : Nat} {w wm : va_W} {og : Nat → Int64} (hG : GP n k al be en) (hR : RelB n be en ea pr cN cI cF cG cP cQ mN mI mF) (hO : OkM mN mF) (hV : RelS n k al be pr (1 + i) cN cI cG mF) (hw : CW cs h0 n k al be en ea pr cN cI cF cG cP cQ pot w) (hmw : MW cs hm n k al be en ea pr mN mI mF potm wm) {H : Heap} {locs : List Loc} {ls : Array Slot} (hP : va_P D vwCl (w ++ (wm ++ [(out, .inl (cs 1, 1, .inr (.inl og)))])) H) (hD : va_D A (w ++ (wm ++ [(out, .inl (cs 1, 1, .inr (.inl og)))]))) (hS : va_S A s.heap H locs) (hl : lv_has ls 7 [(4, .int (nI i)), (3, .ref out), (2, .ref hm), (1, .ref h0), (0, .ref b)]) : W p l e room_1 s m #[Value.ref b] below meth c H locs (300 + 120 * i) ((20000 + 300 * i + potm) + pot) (lw_Z below #[Value.ref b] s) (F0 m 740 ls []) := by
  have hx := C.1
  have hb := C.2.1
  have hz := C.2.2.2.2.1
  have hown := C.2.2.2.1
  have hA := C.2.2.2.2.2.2.2.2.2
  have hpot := hw.pot
  have hpotm := hmw.pot
  refine lv_aload_n hx hb dL_law_740 rfl (lv_at hl 3 rfl) ?_
  refine lv_aload_n hx hb dL_law_741 rfl (lv_at hl 4 rfl) ?_
  refine lv_iload hx hb dL_law_742 (lv_at hl 0 rfl) ?_
  refine lv_iconst (v := nI 1) hx hb dL_law_744 (by decide) ?_
  refine lv_iadd hx hb dL_law_745 ?_
  refine lv_topi (nm_r (e' := nI (i + 1)) (nI_add _ _) ?_)
  refine va_sld hx hb hX hbl hbA hS (pk_in (i + 1) L (by omega)) dL_law_746 ?_
  refine lv_topi (nm_r (e' := xs (i + 1)) (by rw [nI_clamp (by omega)]) ?_)
  refine lv_aload_n hx hb dL_law_747 rfl (lv_at hl 4 rfl) ?_
  refine lv_iload hx hb dL_law_748 (lv_at hl 0 rfl) ?_
  refine lv_iconst (v := nI 2) hx hb dL_law_750 (by decide) ?_
  refine lv_iadd hx hb dL_law_751 ?_
  refine lv_topi (nm_r (e' := nI (i + 2)) (nI_add _ _) ?_)
  refine va_sld hx hb hX hbl hbA hS (pk_in (i + 2) L (by omega)) dL_law_752 ?_
  refine lv_topi (nm_r (e' := xs (i + 2)) (by rw [nI_clamp (by omega)]) ?_)
  refine lv_aload_n hx hb dL_law_753 rfl (lv_at hl 4 rfl) ?_
  refine lv_iload hx hb dL_law_754 (lv_at hl 0 rfl) ?_
  refine lv_iconst (v := nI 3) hx hb dL_law_756 (by decide) ?_
  refine lv_iadd hx hb dL_law_757 ?_
  refine lv_topi (nm_r (e' := nI (i + 3)) (nI_add _ _) ?_)
  refine va_sld hx hb hX hbl hbA hS (pk_in (i + 3) L (by omega)) dL_law_758 ?_
  refine lv_topi (nm_r (e' := xs (i + 3)) (by rw [nI_clamp (by omega)]) ?_)
  refine law_i (sl := (20000 + 300 * i + potm)) (wr := (wm ++ [(out, .inl (cs 1, 1, .inr (.inl og)))])) (ci := 11) (As := [.int (xs (i + 1)), .int (xs (i + 2)), .int (xs (i + 3))]) (rest := []) C (k_X11_entry hG (xs (i + 1)) (xs (i + 2)) (xs (i + 3)) hw) kL_93 hP hD hS (CW.mem hw) rfl rfl (by decide) ⟨Nat.le_of_ble_eq_true rfl, Nat.le_of_ble_eq_true rfl⟩ ⟨by show _ ≤ 601024; omega, by show _ ≤ 7293034; omega⟩ rfl hl.1 rfl (Nat.le_of_ble_eq_true rfl) dL_law_759 ?_
  clear hP hD hS
  try clear locs
  try clear H
  intro r_1 w_2 pot_3 H locs hp_4 hP hD hS
  refine W.widen (k := 300 + 120 * i + 200) (n := (20000 + 300 * i + 500 + potm) + pot_3) (by omega) (by omega) ?_
  obtain ⟨cN_9, cI_10, cF_11, cG_12, cP_13, cQ_14, enz_8, hm_5, he_6, hw_7⟩ := hp_4
  have hb_15 := CW.pot hw_7
  refine lv_pop hx hb dL_law_762 rfl ?_
  refine lv_aload_n hx hb dL_law_763 rfl (lv_at hl 2 rfl) ?_
  refine lv_aload_n hx hb dL_law_764 rfl (lv_at hl 4 rfl) ?_
  refine lv_iload hx hb dL_law_765 (lv_at hl 0 rfl) ?_
  refine lv_iconst (v := nI 1) hx hb dL_law_767 (by decide) ?_
  refine lv_iadd hx hb dL_law_768 ?_
  refine lv_topi (nm_r (e' := nI (i + 1)) (nI_add _ _) ?_)
  refine va_sld hx hb hX hbl hbA hS (pk_in (i + 1) L (by omega)) dL_law_769 ?_
  refine lv_topi (nm_r (e' := xs (i + 1)) (by rw [nI_clamp (by omega)]) ?_)
  refine lv_aload_n hx hb dL_law_770 rfl (lv_at hl 4 rfl) ?_
  refine lv_iload hx hb dL_law_771 (lv_at hl 0 rfl) ?_
  refine lv_iconst (v := nI 2) hx hb dL_law_773 (by decide) ?_
  refine lv_iadd hx hb dL_law_774 ?_
  refine lv_topi (nm_r (e' := nI (i + 2)) (nI_add _ _) ?_)
  refine va_sld hx hb hX hbl hbA hS (pk_in (i + 2) L (by omega)) dL_law_775 ?_
  refine lv_topi (nm_r (e' := xs (i + 2)) (by rw [nI_clamp (by omega)]) ?_)
  refine lv_aload_n hx hb dL_law_776 rfl (lv_at hl 4 rfl) ?_
  refine lv_iload hx hb dL_law_777 (lv_at hl 0 rfl) ?_
  refine lv_iconst (v := nI 3) hx hb dL_law_779 (by decide) ?_
  refine lv_iadd hx hb dL_law_780 ?_
  refine lv_topi (nm_r (e' := nI (i + 3)) (nI_add _ _) ?_)
  refine va_sld hx hb hX hbl hbA hS (pk_in (i + 3) L (by omega)) dL_law_781 ?_
  refine lv_topi (nm_r (e' := xs (i + 3)) (by rw [nI_clamp (by omega)]) ?_)
  replace hP := pP_perm permSwap hP
  replace hD := pD_perm permSwap hD
  refine W.widen (k := 300 + 120 * i + 200) (n := (20000 + 300 * i + 500 + pot_3) + potm) (by omega) (by omega) ?_
  refine law_i (sl := (20000 + 300 * i + 500 + pot_3)) (wr := (w_2 ++ [(out, .inl (cs 1, 1, .inr (.inl og)))])) (ci := 12) (As := [.int (xs (i + 1)), .int (xs (i + 2)), .int (xs (i + 3))]) (rest := []) C (k_X12_entry hG (xs (i + 1)) (xs (i + 2)) (xs (i + 3)) hmw) kL_96 hP hD hS (MW.mem hmw) rfl rfl (by decide) ⟨Nat.le_of_ble_eq_true rfl, Nat.le_of_ble_eq_true rfl⟩ ⟨by show _ ≤ 601024; omega, by show _ ≤ 7293034; omega⟩ rfl hl.1 rfl (Nat.le_of_ble_eq_true rfl) dL_law_782 ?_
  clear hP hD hS
  try clear locs
  try clear H
  intro r_16 w_17 pot_18 H locs hp_19 hP hD hS
  replace hP := pP_perm permSwap hP
  replace hD := pD_perm permSwap hD
  refine W.widen (k := 300 + 120 * i + 200 + 200) (n := (20000 + 300 * i + 500 + 500 + pot_18) + pot_3) (by omega) (by omega) ?_
  obtain ⟨mN_24, mI_25, mF_26, enz_23, hm_20, he_21, hw_22⟩ := hp_19
  have hO_28 := ok_entry hO hm_20 he_21
  obtain rfl : enz_23 = enz_8 := by
    by_cases z9 : entP en (xs (i + 1)) (xs (i + 2)) (xs (i + 3))
    · exact (hm_20.1.2.1 z9).trans (hm_5.1.2.1 z9).symm
    · exact (hm_20.1.2.2 z9).trans (hm_5.1.2.2 z9).symm
  have hR_29 := br_entry hR hm_5 he_6 hm_20 he_21
  have hG_30 : GP n k al be enz_23 := ⟨hG.1, hG.2.1, hG.2.2.1, hG.2.2.2.1, hm_20.2.1⟩
  have hV_31 := hV.up (pr2 := pr) he_6.1 he_6.2.1 he_6.2.2.2.1 he_6.2.2.2.2.1 (Or.inl ⟨he_6.2.2.1, sv_entry hm_20 he_21, rfl⟩)
  have hb_32 := MW.pot hw_22
  refine lv_pop hx hb dL_law_785 rfl ?_
  refine lv_goto (tgt := 1140) hx hb dL_law_786 (by decide) ?_
  refine lv_iinc (v := nI (i + 5)) (lv' := [(4, .int (nI (i + 5))), (3, .ref out), (2, .ref hm), (1, .ref h0), (0, .ref b)]) hx hb dL_law_1140 hl (k := 0) rfl (nI_add i 5) (by decide) rfl ?_
  clear hl
  try clear ls
  intro ls hl
  refine lv_goto (tgt := 23) hx hb dL_law_1143 (by decide) ?_
  exact W.widen (by omega) (by omega) (hnext n k al be enz_23 ea pr cN_9 cI_10 cF_11 cG_12 cP_13 cQ_14 mN_24 mI_25 mF_26 pot_3 pot_18 w_2 w_17 og _ _ _ hG_30 hR_29 hO_28 (hV_31.mono (by omega)) hw_7 hw_22 hP hD hS (lv_sub hl [0, 1, 2, 3, 4] rfl))

set_option maxHeartbeats 4000000 in
set_option maxRecDepth 100000 in
theorem law_case_17 {p : Program} {e : Env} {s : State} {m : MethodId} {below : List Frame} {meth : Method} {c : Code} (l : Launch) (hfl : l.stackTraces = false) {D : va_G} {cs : Nat → ClassId} {A : Nat → Prop} {b L : Nat} {xs : Nat → Int32} (C : xC p room_1 s m #[Value.ref b] meth c ⟨"SampleHouseLaw", meth.name, ""⟩ code 7 ret D cs A) (hTH : xTH s) (hZ0 : xZ A s s.heap) (hX : va_X b L xs s s.heap) (hbl : b < s.heap.size) (hbA : ¬ A b) {h0 hm out i : Nat} (hL : L ≤ 2560) (hi : i + 5 ≤ L) (hnext : LawAt p l e s m below meth c D cs A b h0 hm out (i + 5)) {n k al be en : Nat} {ea pr : Int32} {cN : Nat → Nat} {cI : Nat → Int32} {cF : Nat → Nat → Int32} {cG : Nat → Nat → Nat → Int32} {cP : Nat → Nat → Nat → Int32} {cQ : Nat → Nat → Nat → Int32} {mN : Nat → Nat} {mI : Nat → Int32} {mF : Nat → Nat → Int32} {pot potm : Nat} {w wm : va_W} {og : Nat → Int64} (hG : GP n k al be en) (hR : RelB n be en ea pr cN cI cF cG cP cQ mN mI mF) (hO : OkM mN mF) (hV : RelS n k al be pr (1 + i) cN cI cG mF) (hw : CW cs h0 n k al be en ea pr cN cI cF cG cP cQ pot w) (hmw : MW cs hm n k al be en ea pr mN mI mF potm wm) {H : Heap} {locs : List Loc} {ls : Array Slot} (hP : va_P D vwCl (w ++ (wm ++ [(out, .inl (cs 1, 1, .inr (.inl og)))])) H) (hD : va_D A (w ++ (wm ++ [(out, .inl (cs 1, 1, .inr (.inl og)))]))) (hS : va_S A s.heap H locs) (hl : lv_has ls 7 [(4, .int (nI i)), (3, .ref out), (2, .ref hm), (1, .ref h0), (0, .ref b)]) : W p l e room_1 s m #[Value.ref b] below meth c H locs (300 + 120 * i) ((20000 + 300 * i + potm) + pot) (lw_Z below #[Value.ref b] s) (F0 m 789 ls []) := by
  have hx := C.1
  have hb := C.2.1
  have hz := C.2.2.2.2.1
  have hown := C.2.2.2.1
  have hA := C.2.2.2.2.2.2.2.2.2
  have hpot := hw.pot
  have hpotm := hmw.pot
  refine lv_aload_n hx hb dL_law_789 rfl (lv_at hl 3 rfl) ?_
  refine lv_aload_n hx hb dL_law_790 rfl (lv_at hl 4 rfl) ?_
  refine lv_iload hx hb dL_law_791 (lv_at hl 0 rfl) ?_
  refine lv_iconst (v := nI 1) hx hb dL_law_793 (by decide) ?_
  refine lv_iadd hx hb dL_law_794 ?_
  refine lv_topi (nm_r (e' := nI (i + 1)) (nI_add _ _) ?_)
  refine va_sld hx hb hX hbl hbA hS (pk_in (i + 1) L (by omega)) dL_law_795 ?_
  refine lv_topi (nm_r (e' := xs (i + 1)) (by rw [nI_clamp (by omega)]) ?_)
  refine lv_aload_n hx hb dL_law_796 rfl (lv_at hl 4 rfl) ?_
  refine lv_iload hx hb dL_law_797 (lv_at hl 0 rfl) ?_
  refine lv_iconst (v := nI 2) hx hb dL_law_799 (by decide) ?_
  refine lv_iadd hx hb dL_law_800 ?_
  refine lv_topi (nm_r (e' := nI (i + 2)) (nI_add _ _) ?_)
  refine va_sld hx hb hX hbl hbA hS (pk_in (i + 2) L (by omega)) dL_law_801 ?_
  refine lv_topi (nm_r (e' := xs (i + 2)) (by rw [nI_clamp (by omega)]) ?_)
  refine lv_aload_n hx hb dL_law_802 rfl (lv_at hl 4 rfl) ?_
  refine lv_iload hx hb dL_law_803 (lv_at hl 0 rfl) ?_
  refine lv_iconst (v := nI 3) hx hb dL_law_805 (by decide) ?_
  refine lv_iadd hx hb dL_law_806 ?_
  refine lv_topi (nm_r (e' := nI (i + 3)) (nI_add _ _) ?_)
  refine va_sld hx hb hX hbl hbA hS (pk_in (i + 3) L (by omega)) dL_law_807 ?_
  refine lv_topi (nm_r (e' := xs (i + 3)) (by rw [nI_clamp (by omega)]) ?_)
  refine law_i (sl := (20000 + 300 * i + potm)) (wr := (wm ++ [(out, .inl (cs 1, 1, .inr (.inl og)))])) (ci := 11) (As := [.int (xs (i + 1)), .int (xs (i + 2)), .int (xs (i + 3))]) (rest := []) C (k_X11_poll hG (xs (i + 1)) (xs (i + 2)) (xs (i + 3)) hw) kL_97 hP hD hS (CW.mem hw) rfl rfl (by decide) ⟨Nat.le_of_ble_eq_true rfl, Nat.le_of_ble_eq_true rfl⟩ ⟨by show _ ≤ 601024; omega, by show _ ≤ 7293034; omega⟩ rfl hl.1 rfl (Nat.le_of_ble_eq_true rfl) dL_law_808 ?_
  clear hP hD hS
  try clear locs
  try clear H
  intro r_1 w_2 pot_3 H locs hp_4 hP hD hS
  refine W.widen (k := 300 + 120 * i + 200) (n := (20000 + 300 * i + 500 + potm) + pot_3) (by omega) (by omega) ?_
  obtain ⟨cN_8, cI_9, cF_10, cG_11, cP_12, cQ_13, hm_5, he_6, hw_7⟩ := hp_4
  have hb_14 := CW.pot hw_7
  refine lv_pop hx hb dL_law_811 rfl ?_
  refine lv_aload_n hx hb dL_law_812 rfl (lv_at hl 2 rfl) ?_
  refine lv_aload_n hx hb dL_law_813 rfl (lv_at hl 4 rfl) ?_
  refine lv_iload hx hb dL_law_814 (lv_at hl 0 rfl) ?_
  refine lv_iconst (v := nI 1) hx hb dL_law_816 (by decide) ?_
  refine lv_iadd hx hb dL_law_817 ?_
  refine lv_topi (nm_r (e' := nI (i + 1)) (nI_add _ _) ?_)
  refine va_sld hx hb hX hbl hbA hS (pk_in (i + 1) L (by omega)) dL_law_818 ?_
  refine lv_topi (nm_r (e' := xs (i + 1)) (by rw [nI_clamp (by omega)]) ?_)
  refine lv_aload_n hx hb dL_law_819 rfl (lv_at hl 4 rfl) ?_
  refine lv_iload hx hb dL_law_820 (lv_at hl 0 rfl) ?_
  refine lv_iconst (v := nI 2) hx hb dL_law_822 (by decide) ?_
  refine lv_iadd hx hb dL_law_823 ?_
  refine lv_topi (nm_r (e' := nI (i + 2)) (nI_add _ _) ?_)
  refine va_sld hx hb hX hbl hbA hS (pk_in (i + 2) L (by omega)) dL_law_824 ?_
  refine lv_topi (nm_r (e' := xs (i + 2)) (by rw [nI_clamp (by omega)]) ?_)
  refine lv_aload_n hx hb dL_law_825 rfl (lv_at hl 4 rfl) ?_
  refine lv_iload hx hb dL_law_826 (lv_at hl 0 rfl) ?_
  refine lv_iconst (v := nI 3) hx hb dL_law_828 (by decide) ?_
  refine lv_iadd hx hb dL_law_829 ?_
  refine lv_topi (nm_r (e' := nI (i + 3)) (nI_add _ _) ?_)
  refine va_sld hx hb hX hbl hbA hS (pk_in (i + 3) L (by omega)) dL_law_830 ?_
  refine lv_topi (nm_r (e' := xs (i + 3)) (by rw [nI_clamp (by omega)]) ?_)
  replace hP := pP_perm permSwap hP
  replace hD := pD_perm permSwap hD
  refine W.widen (k := 300 + 120 * i + 200) (n := (20000 + 300 * i + 500 + pot_3) + potm) (by omega) (by omega) ?_
  refine law_i (sl := (20000 + 300 * i + 500 + pot_3)) (wr := (w_2 ++ [(out, .inl (cs 1, 1, .inr (.inl og)))])) (ci := 12) (As := [.int (xs (i + 1)), .int (xs (i + 2)), .int (xs (i + 3))]) (rest := []) C (k_X12_poll hG (xs (i + 1)) (xs (i + 2)) (xs (i + 3)) (hR.prf hG.2.2.2.2) hmw) kL_100 hP hD hS (MW.mem hmw) rfl rfl (by decide) ⟨Nat.le_of_ble_eq_true rfl, Nat.le_of_ble_eq_true rfl⟩ ⟨by show _ ≤ 601024; omega, by show _ ≤ 7293034; omega⟩ rfl hl.1 rfl (Nat.le_of_ble_eq_true rfl) dL_law_831 ?_
  clear hP hD hS
  try clear locs
  try clear H
  intro r_15 w_16 pot_17 H locs hp_18 hP hD hS
  replace hP := pP_perm permSwap hP
  replace hD := pD_perm permSwap hD
  refine W.widen (k := 300 + 120 * i + 200 + 200) (n := (20000 + 300 * i + 500 + 500 + pot_17) + pot_3) (by omega) (by omega) ?_
  obtain ⟨mN_22, mI_23, mF_24, hm_19, he_20, hw_21⟩ := hp_18
  have hO_26 := ok_poll hG hR hO hm_19 he_20
  have hb_hR_25 := br_poll hG hR hm_5 he_6 hm_19 he_20
  have hR_25 := hb_hR_25.1
  have hV_27 := hV.up he_6.2.2.2.2.2.2.2.2.2.2.2.1 he_6.2.2.2.2.2.2.2.2.2.2.2.2.1 he_6.2.2.2.2.2.2.2.2.2.2.2.2.2.1 he_6.2.2.2.2.2.2.2.2.2.2.2.2.2.2 (hb_hR_25.2.2.imp (fun q => ⟨q.1, q.2, rfl⟩) id)
  have hb_28 := MW.pot hw_21
  refine lv_pop hx hb dL_law_834 rfl ?_
  refine lv_goto (tgt := 1140) hx hb dL_law_835 (by decide) ?_
  refine lv_iinc (v := nI (i + 5)) (lv' := [(4, .int (nI (i + 5))), (3, .ref out), (2, .ref hm), (1, .ref h0), (0, .ref b)]) hx hb dL_law_1140 hl (k := 0) rfl (nI_add i 5) (by decide) rfl ?_
  clear hl
  try clear ls
  intro ls hl
  refine lv_goto (tgt := 23) hx hb dL_law_1143 (by decide) ?_
  exact W.widen (by omega) (by omega) (hnext n k al be en ea pr cN_8 cI_9 cF_10 cG_11 cP_12 cQ_13 mN_22 mI_23 mF_24 pot_3 pot_17 w_2 w_16 og _ _ _ hG hR_25 hO_26 (hV_27.mono (by omega)) hw_7 hw_21 hP hD hS (lv_sub hl [0, 1, 2, 3, 4] rfl))

set_option maxHeartbeats 4000000 in
set_option maxRecDepth 100000 in
theorem law_case_18 {p : Program} {e : Env} {s : State} {m : MethodId} {below : List Frame} {meth : Method} {c : Code} (l : Launch) (hfl : l.stackTraces = false) {D : va_G} {cs : Nat → ClassId} {A : Nat → Prop} {b L : Nat} {xs : Nat → Int32} (C : xC p room_1 s m #[Value.ref b] meth c ⟨"SampleHouseLaw", meth.name, ""⟩ code 7 ret D cs A) (hTH : xTH s) (hZ0 : xZ A s s.heap) (hX : va_X b L xs s s.heap) (hbl : b < s.heap.size) (hbA : ¬ A b) {h0 hm out i : Nat} (hL : L ≤ 2560) (hi : i + 5 ≤ L) (hnext : LawAt p l e s m below meth c D cs A b h0 hm out (i + 5)) {n k al be en : Nat} {ea pr : Int32} {cN : Nat → Nat} {cI : Nat → Int32} {cF : Nat → Nat → Int32} {cG : Nat → Nat → Nat → Int32} {cP : Nat → Nat → Nat → Int32} {cQ : Nat → Nat → Nat → Int32} {mN : Nat → Nat} {mI : Nat → Int32} {mF : Nat → Nat → Int32} {pot potm : Nat} {w wm : va_W} {og : Nat → Int64} (hG : GP n k al be en) (hR : RelB n be en ea pr cN cI cF cG cP cQ mN mI mF) (hO : OkM mN mF) (hV : RelS n k al be pr (1 + i) cN cI cG mF) (hw : CW cs h0 n k al be en ea pr cN cI cF cG cP cQ pot w) (hmw : MW cs hm n k al be en ea pr mN mI mF potm wm) {H : Heap} {locs : List Loc} {ls : Array Slot} (hP : va_P D vwCl (w ++ (wm ++ [(out, .inl (cs 1, 1, .inr (.inl og)))])) H) (hD : va_D A (w ++ (wm ++ [(out, .inl (cs 1, 1, .inr (.inl og)))]))) (hS : va_S A s.heap H locs) (hl : lv_has ls 7 [(4, .int (nI i)), (3, .ref out), (2, .ref hm), (1, .ref h0), (0, .ref b)]) : W p l e room_1 s m #[Value.ref b] below meth c H locs (300 + 120 * i) ((20000 + 300 * i + potm) + pot) (lw_Z below #[Value.ref b] s) (F0 m 838 ls []) := by
  have hx := C.1
  have hb := C.2.1
  have hz := C.2.2.2.2.1
  have hown := C.2.2.2.1
  have hA := C.2.2.2.2.2.2.2.2.2
  have hpot := hw.pot
  have hpotm := hmw.pot
  refine lv_aload_n hx hb dL_law_838 rfl (lv_at hl 3 rfl) ?_
  refine lv_aload_n hx hb dL_law_839 rfl (lv_at hl 4 rfl) ?_
  refine lv_iload hx hb dL_law_840 (lv_at hl 0 rfl) ?_
  refine lv_iconst (v := nI 1) hx hb dL_law_842 (by decide) ?_
  refine lv_iadd hx hb dL_law_843 ?_
  refine lv_topi (nm_r (e' := nI (i + 1)) (nI_add _ _) ?_)
  refine va_sld hx hb hX hbl hbA hS (pk_in (i + 1) L (by omega)) dL_law_844 ?_
  refine lv_topi (nm_r (e' := xs (i + 1)) (by rw [nI_clamp (by omega)]) ?_)
  refine lv_aload_n hx hb dL_law_845 rfl (lv_at hl 4 rfl) ?_
  refine lv_iload hx hb dL_law_846 (lv_at hl 0 rfl) ?_
  refine lv_iconst (v := nI 2) hx hb dL_law_848 (by decide) ?_
  refine lv_iadd hx hb dL_law_849 ?_
  refine lv_topi (nm_r (e' := nI (i + 2)) (nI_add _ _) ?_)
  refine va_sld hx hb hX hbl hbA hS (pk_in (i + 2) L (by omega)) dL_law_850 ?_
  refine lv_topi (nm_r (e' := xs (i + 2)) (by rw [nI_clamp (by omega)]) ?_)
  refine lv_aload_n hx hb dL_law_851 rfl (lv_at hl 4 rfl) ?_
  refine lv_iload hx hb dL_law_852 (lv_at hl 0 rfl) ?_
  refine lv_iconst (v := nI 3) hx hb dL_law_854 (by decide) ?_
  refine lv_iadd hx hb dL_law_855 ?_
  refine lv_topi (nm_r (e' := nI (i + 3)) (nI_add _ _) ?_)
  refine va_sld hx hb hX hbl hbA hS (pk_in (i + 3) L (by omega)) dL_law_856 ?_
  refine lv_topi (nm_r (e' := xs (i + 3)) (by rw [nI_clamp (by omega)]) ?_)
  refine law_i (sl := (20000 + 300 * i + potm)) (wr := (wm ++ [(out, .inl (cs 1, 1, .inr (.inl og)))])) (ci := 11) (As := [.int (xs (i + 1)), .int (xs (i + 2)), .int (xs (i + 3))]) (rest := []) C (k_X11_yes hG (xs (i + 1)) (xs (i + 2)) (xs (i + 3)) hw) kL_101 hP hD hS (CW.mem hw) rfl rfl (by decide) ⟨Nat.le_of_ble_eq_true rfl, Nat.le_of_ble_eq_true rfl⟩ ⟨by show _ ≤ 601024; omega, by show _ ≤ 7293034; omega⟩ rfl hl.1 rfl (Nat.le_of_ble_eq_true rfl) dL_law_857 ?_
  clear hP hD hS
  try clear locs
  try clear H
  intro r_1 w_2 pot_3 H locs hp_4 hP hD hS
  refine W.widen (k := 300 + 120 * i + 200) (n := (20000 + 300 * i + 500 + potm) + pot_3) (by omega) (by omega) ?_
  obtain ⟨cN_8, cI_9, cF_10, cG_11, cP_12, cQ_13, hm_5, he_6, hw_7⟩ := hp_4
  have hb_14 := CW.pot hw_7
  refine lv_pop hx hb dL_law_860 rfl ?_
  refine lv_aload_n hx hb dL_law_861 rfl (lv_at hl 2 rfl) ?_
  refine lv_aload_n hx hb dL_law_862 rfl (lv_at hl 4 rfl) ?_
  refine lv_iload hx hb dL_law_863 (lv_at hl 0 rfl) ?_
  refine lv_iconst (v := nI 1) hx hb dL_law_865 (by decide) ?_
  refine lv_iadd hx hb dL_law_866 ?_
  refine lv_topi (nm_r (e' := nI (i + 1)) (nI_add _ _) ?_)
  refine va_sld hx hb hX hbl hbA hS (pk_in (i + 1) L (by omega)) dL_law_867 ?_
  refine lv_topi (nm_r (e' := xs (i + 1)) (by rw [nI_clamp (by omega)]) ?_)
  refine lv_aload_n hx hb dL_law_868 rfl (lv_at hl 4 rfl) ?_
  refine lv_iload hx hb dL_law_869 (lv_at hl 0 rfl) ?_
  refine lv_iconst (v := nI 2) hx hb dL_law_871 (by decide) ?_
  refine lv_iadd hx hb dL_law_872 ?_
  refine lv_topi (nm_r (e' := nI (i + 2)) (nI_add _ _) ?_)
  refine va_sld hx hb hX hbl hbA hS (pk_in (i + 2) L (by omega)) dL_law_873 ?_
  refine lv_topi (nm_r (e' := xs (i + 2)) (by rw [nI_clamp (by omega)]) ?_)
  refine lv_aload_n hx hb dL_law_874 rfl (lv_at hl 4 rfl) ?_
  refine lv_iload hx hb dL_law_875 (lv_at hl 0 rfl) ?_
  refine lv_iconst (v := nI 3) hx hb dL_law_877 (by decide) ?_
  refine lv_iadd hx hb dL_law_878 ?_
  refine lv_topi (nm_r (e' := nI (i + 3)) (nI_add _ _) ?_)
  refine va_sld hx hb hX hbl hbA hS (pk_in (i + 3) L (by omega)) dL_law_879 ?_
  refine lv_topi (nm_r (e' := xs (i + 3)) (by rw [nI_clamp (by omega)]) ?_)
  replace hP := pP_perm permSwap hP
  replace hD := pD_perm permSwap hD
  refine W.widen (k := 300 + 120 * i + 200) (n := (20000 + 300 * i + 500 + pot_3) + potm) (by omega) (by omega) ?_
  refine law_i (sl := (20000 + 300 * i + 500 + pot_3)) (wr := (w_2 ++ [(out, .inl (cs 1, 1, .inr (.inl og)))])) (ci := 12) (As := [.int (xs (i + 1)), .int (xs (i + 2)), .int (xs (i + 3))]) (rest := []) C (k_X12_yes hG (xs (i + 1)) (xs (i + 2)) (xs (i + 3)) hmw) kL_104 hP hD hS (MW.mem hmw) rfl rfl (by decide) ⟨Nat.le_of_ble_eq_true rfl, Nat.le_of_ble_eq_true rfl⟩ ⟨by show _ ≤ 601024; omega, by show _ ≤ 7293034; omega⟩ rfl hl.1 rfl (Nat.le_of_ble_eq_true rfl) dL_law_880 ?_
  clear hP hD hS
  try clear locs
  try clear H
  intro r_15 w_16 pot_17 H locs hp_18 hP hD hS
  replace hP := pP_perm permSwap hP
  replace hD := pD_perm permSwap hD
  refine W.widen (k := 300 + 120 * i + 200 + 200) (n := (20000 + 300 * i + 500 + 500 + pot_17) + pot_3) (by omega) (by omega) ?_
  obtain ⟨mN_22, mI_23, mF_24, hm_19, he_20, hw_21⟩ := hp_18
  have hO_26 := hO.same he_20.1 (fun j _ => congrFun he_20.2.2.2.1 j) he_20.2.2.2.2.1
  have hb_hR_25 := br_yes hG hR hm_5 he_6 hm_19 he_20
  have hR_25 := hb_hR_25.1
  have hV_27 := hV.up (pr2 := pr) he_6.2.2.2.2.2.2.2.2.2.2.2.2.2.2.2.2.2.2.2.1 he_6.2.2.2.2.2.2.2.2.2.2.2.2.2.2.2.2.2.2.2.2.1 he_6.2.2.2.2.2.2.2.2.2.2.2.2.2.2.2.2.2.2.2.2.2.2.1 he_6.2.2.2.2.2.2.2.2.2.2.2.2.2.2.2.2.2.2.2.2.2.2.2 (Or.inl ⟨he_6.2.2.2.2.2.2.2.2.2.2.2.2.2.2.2.2.2.2.2.2.2.1, (fun j hj => ((fun j _ => congrFun he_20.2.2.2.1 j) j (by omega)).symm), rfl⟩)
  have hb_28 := MW.pot hw_21
  refine lv_pop hx hb dL_law_883 rfl ?_
  refine lv_goto (tgt := 1140) hx hb dL_law_884 (by decide) ?_
  refine lv_iinc (v := nI (i + 5)) (lv' := [(4, .int (nI (i + 5))), (3, .ref out), (2, .ref hm), (1, .ref h0), (0, .ref b)]) hx hb dL_law_1140 hl (k := 0) rfl (nI_add i 5) (by decide) rfl ?_
  clear hl
  try clear ls
  intro ls hl
  refine lv_goto (tgt := 23) hx hb dL_law_1143 (by decide) ?_
  exact W.widen (by omega) (by omega) (hnext n k al be en ea pr cN_8 cI_9 cF_10 cG_11 cP_12 cQ_13 mN_22 mI_23 mF_24 pot_3 pot_17 w_2 w_16 og _ _ _ hG hR_25 hO_26 (hV_27.mono (by omega)) hw_7 hw_21 hP hD hS (lv_sub hl [0, 1, 2, 3, 4] rfl))

set_option maxHeartbeats 4000000 in
set_option maxRecDepth 100000 in
theorem law_case_19 {p : Program} {e : Env} {s : State} {m : MethodId} {below : List Frame} {meth : Method} {c : Code} (l : Launch) (hfl : l.stackTraces = false) {D : va_G} {cs : Nat → ClassId} {A : Nat → Prop} {b L : Nat} {xs : Nat → Int32} (C : xC p room_1 s m #[Value.ref b] meth c ⟨"SampleHouseLaw", meth.name, ""⟩ code 7 ret D cs A) (hTH : xTH s) (hZ0 : xZ A s s.heap) (hX : va_X b L xs s s.heap) (hbl : b < s.heap.size) (hbA : ¬ A b) {h0 hm out i : Nat} (hL : L ≤ 2560) (hi : i + 5 ≤ L) (hnext : LawAt p l e s m below meth c D cs A b h0 hm out (i + 5)) {n k al be en : Nat} {ea pr : Int32} {cN : Nat → Nat} {cI : Nat → Int32} {cF : Nat → Nat → Int32} {cG : Nat → Nat → Nat → Int32} {cP : Nat → Nat → Nat → Int32} {cQ : Nat → Nat → Nat → Int32} {mN : Nat → Nat} {mI : Nat → Int32} {mF : Nat → Nat → Int32} {pot potm : Nat} {w wm : va_W} {og : Nat → Int64} (hG : GP n k al be en) (hR : RelB n be en ea pr cN cI cF cG cP cQ mN mI mF) (hO : OkM mN mF) (hV : RelS n k al be pr (1 + i) cN cI cG mF) (hw : CW cs h0 n k al be en ea pr cN cI cF cG cP cQ pot w) (hmw : MW cs hm n k al be en ea pr mN mI mF potm wm) {H : Heap} {locs : List Loc} {ls : Array Slot} (hP : va_P D vwCl (w ++ (wm ++ [(out, .inl (cs 1, 1, .inr (.inl og)))])) H) (hD : va_D A (w ++ (wm ++ [(out, .inl (cs 1, 1, .inr (.inl og)))]))) (hS : va_S A s.heap H locs) (hl : lv_has ls 7 [(4, .int (nI i)), (3, .ref out), (2, .ref hm), (1, .ref h0), (0, .ref b)]) : W p l e room_1 s m #[Value.ref b] below meth c H locs (300 + 120 * i) ((20000 + 300 * i + potm) + pot) (lw_Z below #[Value.ref b] s) (F0 m 887 ls []) := by
  have hx := C.1
  have hb := C.2.1
  have hz := C.2.2.2.2.1
  have hown := C.2.2.2.1
  have hA := C.2.2.2.2.2.2.2.2.2
  have hpot := hw.pot
  have hpotm := hmw.pot
  refine lv_aload_n hx hb dL_law_887 rfl (lv_at hl 3 rfl) ?_
  refine lv_aload_n hx hb dL_law_888 rfl (lv_at hl 4 rfl) ?_
  refine lv_iload hx hb dL_law_889 (lv_at hl 0 rfl) ?_
  refine lv_iconst (v := nI 1) hx hb dL_law_891 (by decide) ?_
  refine lv_iadd hx hb dL_law_892 ?_
  refine lv_topi (nm_r (e' := nI (i + 1)) (nI_add _ _) ?_)
  refine va_sld hx hb hX hbl hbA hS (pk_in (i + 1) L (by omega)) dL_law_893 ?_
  refine lv_topi (nm_r (e' := xs (i + 1)) (by rw [nI_clamp (by omega)]) ?_)
  refine lv_aload_n hx hb dL_law_894 rfl (lv_at hl 4 rfl) ?_
  refine lv_iload hx hb dL_law_895 (lv_at hl 0 rfl) ?_
  refine lv_iconst (v := nI 2) hx hb dL_law_897 (by decide) ?_
  refine lv_iadd hx hb dL_law_898 ?_
  refine lv_topi (nm_r (e' := nI (i + 2)) (nI_add _ _) ?_)
  refine va_sld hx hb hX hbl hbA hS (pk_in (i + 2) L (by omega)) dL_law_899 ?_
  refine lv_topi (nm_r (e' := xs (i + 2)) (by rw [nI_clamp (by omega)]) ?_)
  refine law_i (sl := (20000 + 300 * i + potm)) (wr := (wm ++ [(out, .inl (cs 1, 1, .inr (.inl og)))])) (ci := 11) (As := [.int (xs (i + 1)), .int (xs (i + 2))]) (rest := []) C (k_X11_polls hG (xs (i + 1)) (xs (i + 2)) hw) kL_105 hP hD hS (CW.mem hw) rfl rfl (by decide) ⟨Nat.le_of_ble_eq_true rfl, Nat.le_of_ble_eq_true rfl⟩ ⟨by show _ ≤ 601024; omega, by show _ ≤ 7293034; omega⟩ rfl hl.1 rfl (Nat.le_of_ble_eq_true rfl) dL_law_900 ?_
  clear hP hD hS
  try clear locs
  try clear H
  intro r_1 w_2 pot_3 H locs hp_4 hP hD hS
  refine W.widen (k := 300 + 120 * i + 200) (n := (20000 + 300 * i + 500 + potm) + pot_3) (by omega) (by omega) ?_
  obtain ⟨cN_8, cI_9, cF_10, cG_11, cP_12, cQ_13, hm_5, he_6, hw_7⟩ := hp_4
  have hb_14 := CW.pot hw_7
  refine lv_pop hx hb dL_law_903 rfl ?_
  refine lv_aload_n hx hb dL_law_904 rfl (lv_at hl 2 rfl) ?_
  refine lv_aload_n hx hb dL_law_905 rfl (lv_at hl 4 rfl) ?_
  refine lv_iload hx hb dL_law_906 (lv_at hl 0 rfl) ?_
  refine lv_iconst (v := nI 1) hx hb dL_law_908 (by decide) ?_
  refine lv_iadd hx hb dL_law_909 ?_
  refine lv_topi (nm_r (e' := nI (i + 1)) (nI_add _ _) ?_)
  refine va_sld hx hb hX hbl hbA hS (pk_in (i + 1) L (by omega)) dL_law_910 ?_
  refine lv_topi (nm_r (e' := xs (i + 1)) (by rw [nI_clamp (by omega)]) ?_)
  refine lv_aload_n hx hb dL_law_911 rfl (lv_at hl 4 rfl) ?_
  refine lv_iload hx hb dL_law_912 (lv_at hl 0 rfl) ?_
  refine lv_iconst (v := nI 2) hx hb dL_law_914 (by decide) ?_
  refine lv_iadd hx hb dL_law_915 ?_
  refine lv_topi (nm_r (e' := nI (i + 2)) (nI_add _ _) ?_)
  refine va_sld hx hb hX hbl hbA hS (pk_in (i + 2) L (by omega)) dL_law_916 ?_
  refine lv_topi (nm_r (e' := xs (i + 2)) (by rw [nI_clamp (by omega)]) ?_)
  replace hP := pP_perm permSwap hP
  replace hD := pD_perm permSwap hD
  refine W.widen (k := 300 + 120 * i + 200) (n := (20000 + 300 * i + 500 + pot_3) + potm) (by omega) (by omega) ?_
  refine law_i (sl := (20000 + 300 * i + 500 + pot_3)) (wr := (w_2 ++ [(out, .inl (cs 1, 1, .inr (.inl og)))])) (ci := 12) (As := [.int (xs (i + 1)), .int (xs (i + 2))]) (rest := []) C (k_X12_polls hG (xs (i + 1)) (xs (i + 2)) (hR.prf hG.2.2.2.2) hmw) kL_108 hP hD hS (MW.mem hmw) rfl rfl (by decide) ⟨Nat.le_of_ble_eq_true rfl, Nat.le_of_ble_eq_true rfl⟩ ⟨by show _ ≤ 601024; omega, by show _ ≤ 7293034; omega⟩ rfl hl.1 rfl (Nat.le_of_ble_eq_true rfl) dL_law_917 ?_
  clear hP hD hS
  try clear locs
  try clear H
  intro r_15 w_16 pot_17 H locs hp_18 hP hD hS
  replace hP := pP_perm permSwap hP
  replace hD := pD_perm permSwap hD
  refine W.widen (k := 300 + 120 * i + 200 + 200) (n := (20000 + 300 * i + 500 + 500 + pot_17) + pot_3) (by omega) (by omega) ?_
  obtain ⟨mN_22, mI_23, mF_24, hm_19, he_20, hw_21⟩ := hp_18
  have hO_26 := ok_polls hG hR hO hm_19 he_20
  have hb_hR_25 := br_polls hG hR hm_5 he_6 hm_19 he_20
  have hR_25 := hb_hR_25.1
  have hV_27 := hV.up he_6.2.2.2.2.2.2.2.2.2.2.2.1 he_6.2.2.2.2.2.2.2.2.2.2.2.2.1 he_6.2.2.2.2.2.2.2.2.2.2.2.2.2.1 he_6.2.2.2.2.2.2.2.2.2.2.2.2.2.2 (hb_hR_25.2.2.imp (fun q => ⟨q.1, q.2, rfl⟩) id)
  have hb_28 := MW.pot hw_21
  refine lv_pop hx hb dL_law_920 rfl ?_
  refine lv_goto (tgt := 1140) hx hb dL_law_921 (by decide) ?_
  refine lv_iinc (v := nI (i + 5)) (lv' := [(4, .int (nI (i + 5))), (3, .ref out), (2, .ref hm), (1, .ref h0), (0, .ref b)]) hx hb dL_law_1140 hl (k := 0) rfl (nI_add i 5) (by decide) rfl ?_
  clear hl
  try clear ls
  intro ls hl
  refine lv_goto (tgt := 23) hx hb dL_law_1143 (by decide) ?_
  exact W.widen (by omega) (by omega) (hnext n k al be en ea pr cN_8 cI_9 cF_10 cG_11 cP_12 cQ_13 mN_22 mI_23 mF_24 pot_3 pot_17 w_2 w_16 og _ _ _ hG hR_25 hO_26 (hV_27.mono (by omega)) hw_7 hw_21 hP hD hS (lv_sub hl [0, 1, 2, 3, 4] rfl))

set_option maxHeartbeats 4000000 in
set_option maxRecDepth 100000 in
theorem law_case_20 {p : Program} {e : Env} {s : State} {m : MethodId} {below : List Frame} {meth : Method} {c : Code} (l : Launch) (hfl : l.stackTraces = false) {D : va_G} {cs : Nat → ClassId} {A : Nat → Prop} {b L : Nat} {xs : Nat → Int32} (C : xC p room_1 s m #[Value.ref b] meth c ⟨"SampleHouseLaw", meth.name, ""⟩ code 7 ret D cs A) (hTH : xTH s) (hZ0 : xZ A s s.heap) (hX : va_X b L xs s s.heap) (hbl : b < s.heap.size) (hbA : ¬ A b) {h0 hm out i : Nat} (hL : L ≤ 2560) (hi : i + 5 ≤ L) (hnext : LawAt p l e s m below meth c D cs A b h0 hm out (i + 5)) {n k al be en : Nat} {ea pr : Int32} {cN : Nat → Nat} {cI : Nat → Int32} {cF : Nat → Nat → Int32} {cG : Nat → Nat → Nat → Int32} {cP : Nat → Nat → Nat → Int32} {cQ : Nat → Nat → Nat → Int32} {mN : Nat → Nat} {mI : Nat → Int32} {mF : Nat → Nat → Int32} {pot potm : Nat} {w wm : va_W} {og : Nat → Int64} (hG : GP n k al be en) (hR : RelB n be en ea pr cN cI cF cG cP cQ mN mI mF) (hO : OkM mN mF) (hV : RelS n k al be pr (1 + i) cN cI cG mF) (hw : CW cs h0 n k al be en ea pr cN cI cF cG cP cQ pot w) (hmw : MW cs hm n k al be en ea pr mN mI mF potm wm) {H : Heap} {locs : List Loc} {ls : Array Slot} (hP : va_P D vwCl (w ++ (wm ++ [(out, .inl (cs 1, 1, .inr (.inl og)))])) H) (hD : va_D A (w ++ (wm ++ [(out, .inl (cs 1, 1, .inr (.inl og)))]))) (hS : va_S A s.heap H locs) (hl : lv_has ls 7 [(4, .int (nI i)), (3, .ref out), (2, .ref hm), (1, .ref h0), (0, .ref b)]) : W p l e room_1 s m #[Value.ref b] below meth c H locs (300 + 120 * i) ((20000 + 300 * i + potm) + pot) (lw_Z below #[Value.ref b] s) (F0 m 924 ls []) := by
  have hx := C.1
  have hb := C.2.1
  have hz := C.2.2.2.2.1
  have hown := C.2.2.2.1
  have hA := C.2.2.2.2.2.2.2.2.2
  have hpot := hw.pot
  have hpotm := hmw.pot
  refine lv_aload_n hx hb dL_law_924 rfl (lv_at hl 3 rfl) ?_
  refine lv_aload_n hx hb dL_law_925 rfl (lv_at hl 4 rfl) ?_
  refine lv_iload hx hb dL_law_926 (lv_at hl 0 rfl) ?_
  refine lv_iconst (v := nI 1) hx hb dL_law_928 (by decide) ?_
  refine lv_iadd hx hb dL_law_929 ?_
  refine lv_topi (nm_r (e' := nI (i + 1)) (nI_add _ _) ?_)
  refine va_sld hx hb hX hbl hbA hS (pk_in (i + 1) L (by omega)) dL_law_930 ?_
  refine lv_topi (nm_r (e' := xs (i + 1)) (by rw [nI_clamp (by omega)]) ?_)
  refine lv_aload_n hx hb dL_law_931 rfl (lv_at hl 4 rfl) ?_
  refine lv_iload hx hb dL_law_932 (lv_at hl 0 rfl) ?_
  refine lv_iconst (v := nI 2) hx hb dL_law_934 (by decide) ?_
  refine lv_iadd hx hb dL_law_935 ?_
  refine lv_topi (nm_r (e' := nI (i + 2)) (nI_add _ _) ?_)
  refine va_sld hx hb hX hbl hbA hS (pk_in (i + 2) L (by omega)) dL_law_936 ?_
  refine lv_topi (nm_r (e' := xs (i + 2)) (by rw [nI_clamp (by omega)]) ?_)
  refine law_i (sl := (20000 + 300 * i + potm)) (wr := (wm ++ [(out, .inl (cs 1, 1, .inr (.inl og)))])) (ci := 11) (As := [.int (xs (i + 1)), .int (xs (i + 2))]) (rest := []) C (k_X11_of hG (xs (i + 1)) (xs (i + 2)) hw) kL_109 hP hD hS (CW.mem hw) rfl rfl (by decide) ⟨Nat.le_of_ble_eq_true rfl, Nat.le_of_ble_eq_true rfl⟩ ⟨by show _ ≤ 601024; omega, by show _ ≤ 7293034; omega⟩ rfl hl.1 rfl (Nat.le_of_ble_eq_true rfl) dL_law_937 ?_
  clear hP hD hS
  try clear locs
  try clear H
  intro r_1 w_2 pot_3 H locs hp_4 hP hD hS
  refine W.widen (k := 300 + 120 * i + 200) (n := (20000 + 300 * i + 500 + potm) + pot_3) (by omega) (by omega) ?_
  obtain ⟨cN_8, cI_9, cF_10, cG_11, cP_12, cQ_13, hm_5, he_6, hw_7⟩ := hp_4
  have hb_14 := CW.pot hw_7
  refine lv_pop hx hb dL_law_940 rfl ?_
  refine lv_aload_n hx hb dL_law_941 rfl (lv_at hl 2 rfl) ?_
  refine lv_aload_n hx hb dL_law_942 rfl (lv_at hl 4 rfl) ?_
  refine lv_iload hx hb dL_law_943 (lv_at hl 0 rfl) ?_
  refine lv_iconst (v := nI 1) hx hb dL_law_945 (by decide) ?_
  refine lv_iadd hx hb dL_law_946 ?_
  refine lv_topi (nm_r (e' := nI (i + 1)) (nI_add _ _) ?_)
  refine va_sld hx hb hX hbl hbA hS (pk_in (i + 1) L (by omega)) dL_law_947 ?_
  refine lv_topi (nm_r (e' := xs (i + 1)) (by rw [nI_clamp (by omega)]) ?_)
  refine lv_aload_n hx hb dL_law_948 rfl (lv_at hl 4 rfl) ?_
  refine lv_iload hx hb dL_law_949 (lv_at hl 0 rfl) ?_
  refine lv_iconst (v := nI 2) hx hb dL_law_951 (by decide) ?_
  refine lv_iadd hx hb dL_law_952 ?_
  refine lv_topi (nm_r (e' := nI (i + 2)) (nI_add _ _) ?_)
  refine va_sld hx hb hX hbl hbA hS (pk_in (i + 2) L (by omega)) dL_law_953 ?_
  refine lv_topi (nm_r (e' := xs (i + 2)) (by rw [nI_clamp (by omega)]) ?_)
  replace hP := pP_perm permSwap hP
  replace hD := pD_perm permSwap hD
  refine W.widen (k := 300 + 120 * i + 200) (n := (20000 + 300 * i + 500 + pot_3) + potm) (by omega) (by omega) ?_
  refine law_i (sl := (20000 + 300 * i + 500 + pot_3)) (wr := (w_2 ++ [(out, .inl (cs 1, 1, .inr (.inl og)))])) (ci := 12) (As := [.int (xs (i + 1)), .int (xs (i + 2))]) (rest := []) C (k_X12_of hG (xs (i + 1)) (xs (i + 2)) hmw) kL_112 hP hD hS (MW.mem hmw) rfl rfl (by decide) ⟨Nat.le_of_ble_eq_true rfl, Nat.le_of_ble_eq_true rfl⟩ ⟨by show _ ≤ 601024; omega, by show _ ≤ 7293034; omega⟩ rfl hl.1 rfl (Nat.le_of_ble_eq_true rfl) dL_law_954 ?_
  clear hP hD hS
  try clear locs
  try clear H
  intro r_15 w_16 pot_17 H locs hp_18 hP hD hS
  replace hP := pP_perm permSwap hP
  replace hD := pD_perm permSwap hD
  refine W.widen (k := 300 + 120 * i + 200 + 200) (n := (20000 + 300 * i + 500 + 500 + pot_17) + pot_3) (by omega) (by omega) ?_
  obtain ⟨mN_22, mI_23, mF_24, hm_19, he_20, hw_21⟩ := hp_18
  have hO_26 := hO.same he_20.1 (fun j _ => congrFun he_20.2.2.2.1 j) he_20.2.2.2.2.1
  have hR_25 := hR.same he_6.1 he_6.2.1 he_6.2.2.1 he_6.2.2.2.1 he_6.2.2.2.2.1 he_6.2.2.2.2.2.1 he_6.2.2.2.2.2.2.1 he_6.2.2.2.2.2.2.2.1 he_6.2.2.2.2.2.2.2.2.1 he_6.2.2.2.2.2.2.2.2.2.1 he_6.2.2.2.2.2.2.2.2.2.2.1 he_6.2.2.2.2.2.2.2.2.2.2.2.1 he_6.2.2.2.2.2.2.2.2.2.2.2.2.1 he_6.2.2.2.2.2.2.2.2.2.2.2.2.2.1 he_6.2.2.2.2.2.2.2.2.2.2.2.2.2.2.1 he_6.2.2.2.2.2.2.2.2.2.2.2.2.2.2.2.2.1 he_6.2.2.2.2.2.2.2.2.2.2.2.2.2.2.2.2.2.1 he_6.2.2.2.2.2.2.2.2.2.2.2.2.2.2.2.2.2.2.1 he_20.1 he_20.2.1 he_20.2.2.1 (fun j _ => congrFun he_20.2.2.2.1 j) he_20.2.2.2.2.1 he_20.2.2.2.2.2.1 he_20.2.2.2.2.2.2.1 he_20.2.2.2.2.2.2.2.1 he_20.2.2.2.2.2.2.2.2.1 he_20.2.2.2.2.2.2.2.2.2
  have hV_27 := hV.up (pr2 := pr) he_6.2.2.2.2.2.2.2.2.2.2.2.2.2.2.2.2.2.2.2.1 he_6.2.2.2.2.2.2.2.2.2.2.2.2.2.2.2.2.2.2.2.2.1 he_6.2.2.2.2.2.2.2.2.2.2.2.2.2.2.2.2.2.2.2.2.2.2.1 he_6.2.2.2.2.2.2.2.2.2.2.2.2.2.2.2.2.2.2.2.2.2.2.2 (Or.inl ⟨he_6.2.2.2.2.2.2.2.2.2.2.2.2.2.2.2.2.2.2.2.2.2.1, (fun j hj => ((fun j _ => congrFun he_20.2.2.2.1 j) j (by omega)).symm), rfl⟩)
  have hb_28 := MW.pot hw_21
  refine lv_pop hx hb dL_law_957 rfl ?_
  refine lv_goto (tgt := 1140) hx hb dL_law_958 (by decide) ?_
  refine lv_iinc (v := nI (i + 5)) (lv' := [(4, .int (nI (i + 5))), (3, .ref out), (2, .ref hm), (1, .ref h0), (0, .ref b)]) hx hb dL_law_1140 hl (k := 0) rfl (nI_add i 5) (by decide) rfl ?_
  clear hl
  try clear ls
  intro ls hl
  refine lv_goto (tgt := 23) hx hb dL_law_1143 (by decide) ?_
  exact W.widen (by omega) (by omega) (hnext n k al be en ea pr cN_8 cI_9 cF_10 cG_11 cP_12 cQ_13 mN_22 mI_23 mF_24 pot_3 pot_17 w_2 w_16 og _ _ _ hG hR_25 hO_26 (hV_27.mono (by omega)) hw_7 hw_21 hP hD hS (lv_sub hl [0, 1, 2, 3, 4] rfl))

set_option maxHeartbeats 4000000 in
set_option maxRecDepth 100000 in
theorem law_case_21 {p : Program} {e : Env} {s : State} {m : MethodId} {below : List Frame} {meth : Method} {c : Code} (l : Launch) (hfl : l.stackTraces = false) {D : va_G} {cs : Nat → ClassId} {A : Nat → Prop} {b L : Nat} {xs : Nat → Int32} (C : xC p room_1 s m #[Value.ref b] meth c ⟨"SampleHouseLaw", meth.name, ""⟩ code 7 ret D cs A) (hTH : xTH s) (hZ0 : xZ A s s.heap) (hX : va_X b L xs s s.heap) (hbl : b < s.heap.size) (hbA : ¬ A b) {h0 hm out i : Nat} (hL : L ≤ 2560) (hi : i + 5 ≤ L) (hnext : LawAt p l e s m below meth c D cs A b h0 hm out (i + 5)) {n k al be en : Nat} {ea pr : Int32} {cN : Nat → Nat} {cI : Nat → Int32} {cF : Nat → Nat → Int32} {cG : Nat → Nat → Nat → Int32} {cP : Nat → Nat → Nat → Int32} {cQ : Nat → Nat → Nat → Int32} {mN : Nat → Nat} {mI : Nat → Int32} {mF : Nat → Nat → Int32} {pot potm : Nat} {w wm : va_W} {og : Nat → Int64} (hG : GP n k al be en) (hR : RelB n be en ea pr cN cI cF cG cP cQ mN mI mF) (hO : OkM mN mF) (hV : RelS n k al be pr (1 + i) cN cI cG mF) (hw : CW cs h0 n k al be en ea pr cN cI cF cG cP cQ pot w) (hmw : MW cs hm n k al be en ea pr mN mI mF potm wm) {H : Heap} {locs : List Loc} {ls : Array Slot} (hP : va_P D vwCl (w ++ (wm ++ [(out, .inl (cs 1, 1, .inr (.inl og)))])) H) (hD : va_D A (w ++ (wm ++ [(out, .inl (cs 1, 1, .inr (.inl og)))]))) (hS : va_S A s.heap H locs) (hl : lv_has ls 7 [(4, .int (nI i)), (3, .ref out), (2, .ref hm), (1, .ref h0), (0, .ref b)]) : W p l e room_1 s m #[Value.ref b] below meth c H locs (300 + 120 * i) ((20000 + 300 * i + potm) + pot) (lw_Z below #[Value.ref b] s) (F0 m 961 ls []) := by
  have hx := C.1
  have hb := C.2.1
  have hz := C.2.2.2.2.1
  have hown := C.2.2.2.1
  have hA := C.2.2.2.2.2.2.2.2.2
  have hpot := hw.pot
  have hpotm := hmw.pot
  refine lv_aload_n hx hb dL_law_961 rfl (lv_at hl 3 rfl) ?_
  refine lv_aload_n hx hb dL_law_962 rfl (lv_at hl 4 rfl) ?_
  refine lv_iload hx hb dL_law_963 (lv_at hl 0 rfl) ?_
  refine lv_iconst (v := nI 1) hx hb dL_law_965 (by decide) ?_
  refine lv_iadd hx hb dL_law_966 ?_
  refine lv_topi (nm_r (e' := nI (i + 1)) (nI_add _ _) ?_)
  refine va_sld hx hb hX hbl hbA hS (pk_in (i + 1) L (by omega)) dL_law_967 ?_
  refine lv_topi (nm_r (e' := xs (i + 1)) (by rw [nI_clamp (by omega)]) ?_)
  refine lv_aload_n hx hb dL_law_968 rfl (lv_at hl 4 rfl) ?_
  refine lv_iload hx hb dL_law_969 (lv_at hl 0 rfl) ?_
  refine lv_iconst (v := nI 2) hx hb dL_law_971 (by decide) ?_
  refine lv_iadd hx hb dL_law_972 ?_
  refine lv_topi (nm_r (e' := nI (i + 2)) (nI_add _ _) ?_)
  refine va_sld hx hb hX hbl hbA hS (pk_in (i + 2) L (by omega)) dL_law_973 ?_
  refine lv_topi (nm_r (e' := xs (i + 2)) (by rw [nI_clamp (by omega)]) ?_)
  refine lv_aload_n hx hb dL_law_974 rfl (lv_at hl 4 rfl) ?_
  refine lv_iload hx hb dL_law_975 (lv_at hl 0 rfl) ?_
  refine lv_iconst (v := nI 3) hx hb dL_law_977 (by decide) ?_
  refine lv_iadd hx hb dL_law_978 ?_
  refine lv_topi (nm_r (e' := nI (i + 3)) (nI_add _ _) ?_)
  refine va_sld hx hb hX hbl hbA hS (pk_in (i + 3) L (by omega)) dL_law_979 ?_
  refine lv_topi (nm_r (e' := xs (i + 3)) (by rw [nI_clamp (by omega)]) ?_)
  refine lv_aload_n hx hb dL_law_980 rfl (lv_at hl 1 rfl) ?_
  refine law_H (n := 5) (sl := (20000 + 300 * i + potm)) (As := [.ref h0, .int (xs (i + 1)), .int (xs (i + 2)), .int (xs (i + 3)), .ref out]) (rest := []) C (k_L_view hfl hG (xs (i + 1)) (xs (i + 2)) (xs (i + 3)) hw wm out og) zcw_view zw1_0 zw5_122 zw5_123 (by decide +kernel) hTH hZ0 hP hD hS (by decide) ⟨Nat.le_of_ble_eq_true rfl, Nat.le_of_ble_eq_true rfl⟩ ⟨by show _ ≤ 601024; omega, by show _ ≤ 7293034; omega⟩ rfl hl.1 rfl (Nat.le_of_ble_eq_true rfl) dL_law_981 ?_
  clear hP hD hS
  try clear locs
  try clear H
  rintro r_1 ⟨wu_2, og_u_2⟩ H locs hp_3 hP hD hS
  have hw_4 := hp_3.2
  refine W.widen (k := 300 + 120 * i + 200) (n := (20000 + 300 * i + 500 + potm) + pot) (by omega) (by omega) ?_
  refine lv_istore (lv' := [(5, .int r_1), (4, .int (nI i)), (3, .ref out), (2, .ref hm), (1, .ref h0), (0, .ref b)]) hx hb dL_law_984 hl (by decide) rfl ?_
  clear hl
  try clear ls
  intro ls hl
  refine lv_aload_n hx hb dL_law_986 rfl (lv_at hl 3 rfl) ?_
  refine lv_aload_n hx hb dL_law_987 rfl (lv_at hl 5 rfl) ?_
  refine lv_iload hx hb dL_law_988 (lv_at hl 1 rfl) ?_
  refine lv_iconst (v := nI 1) hx hb dL_law_990 (by decide) ?_
  refine lv_iadd hx hb dL_law_991 ?_
  refine lv_topi (nm_r (e' := nI (i + 1)) (nI_add _ _) ?_)
  refine va_sld hx hb hX hbl hbA hS (pk_in (i + 1) L (by omega)) dL_law_992 ?_
  refine lv_topi (nm_r (e' := xs (i + 1)) (by rw [nI_clamp (by omega)]) ?_)
  refine lv_aload_n hx hb dL_law_993 rfl (lv_at hl 5 rfl) ?_
  refine lv_iload hx hb dL_law_994 (lv_at hl 1 rfl) ?_
  refine lv_iconst (v := nI 2) hx hb dL_law_996 (by decide) ?_
  refine lv_iadd hx hb dL_law_997 ?_
  refine lv_topi (nm_r (e' := nI (i + 2)) (nI_add _ _) ?_)
  refine va_sld hx hb hX hbl hbA hS (pk_in (i + 2) L (by omega)) dL_law_998 ?_
  refine lv_topi (nm_r (e' := xs (i + 2)) (by rw [nI_clamp (by omega)]) ?_)
  refine lv_aload_n hx hb dL_law_999 rfl (lv_at hl 5 rfl) ?_
  refine lv_iload hx hb dL_law_1000 (lv_at hl 1 rfl) ?_
  refine lv_iconst (v := nI 3) hx hb dL_law_1002 (by decide) ?_
  refine lv_iadd hx hb dL_law_1003 ?_
  refine lv_topi (nm_r (e' := nI (i + 3)) (nI_add _ _) ?_)
  refine va_sld hx hb hX hbl hbA hS (pk_in (i + 3) L (by omega)) dL_law_1004 ?_
  refine lv_topi (nm_r (e' := xs (i + 3)) (by rw [nI_clamp (by omega)]) ?_)
  replace hP := pP_perm permSwap hP
  replace hD := pD_perm permSwap hD
  refine W.widen (k := 300 + 120 * i + 200) (n := (20000 + 300 * i + 500 + pot) + potm) (by omega) (by omega) ?_
  refine law_i (sl := (20000 + 300 * i + 500 + pot)) (wr := (wu_2 ++ [(out, .inl (cs 1, 1, .inr (.inl og_u_2)))])) (ci := 12) (As := [.int (xs (i + 1)), .int (xs (i + 2)), .int (xs (i + 3))]) (rest := []) C (k_X12_view hG (xs (i + 1)) (xs (i + 2)) (xs (i + 3)) hmw) kL_118 hP hD hS (MW.mem hmw) rfl rfl (by decide) ⟨Nat.le_of_ble_eq_true rfl, Nat.le_of_ble_eq_true rfl⟩ ⟨by show _ ≤ 601024; omega, by show _ ≤ 7293034; omega⟩ rfl hl.1 rfl (Nat.le_of_ble_eq_true rfl) dL_law_1005 ?_
  clear hP hD hS
  try clear locs
  try clear H
  intro r_5 w_6 pot_7 H locs hp_8 hP hD hS
  replace hP := pP_perm permSwap hP
  replace hD := pD_perm permSwap hD
  refine W.widen (k := 300 + 120 * i + 200 + 200) (n := (20000 + 300 * i + 500 + 500 + pot_7) + pot) (by omega) (by omega) ?_
  obtain ⟨mN_12, mI_13, mF_14, hm_9, he_10, hw_11⟩ := hp_8
  have hO_16 := hO.same he_10.1 (fun j _ => congrFun he_10.2.2.2.1 j) he_10.2.2.2.2.1
  have hR_15 := hR.same rfl rfl rfl rfl rfl rfl rfl rfl rfl rfl rfl rfl rfl rfl rfl rfl rfl rfl he_10.1 he_10.2.1 he_10.2.2.1 (fun j _ => congrFun he_10.2.2.2.1 j) he_10.2.2.2.2.1 he_10.2.2.2.2.2.1 he_10.2.2.2.2.2.2.1 he_10.2.2.2.2.2.2.2.1 he_10.2.2.2.2.2.2.2.2.1 he_10.2.2.2.2.2.2.2.2.2
  have hV_17 := hV.up (pr2 := pr) rfl rfl rfl rfl (Or.inl ⟨rfl, (fun j hj => ((fun j _ => congrFun he_10.2.2.2.1 j) j (by omega)).symm), rfl⟩)
  have hb_18 := MW.pot hw_11
  refine lv_istore (lv' := [(6, .int r_5), (5, .int r_1), (4, .int (nI i)), (3, .ref out), (2, .ref hm), (1, .ref h0), (0, .ref b)]) hx hb dL_law_1008 hl (by decide) rfl ?_
  clear hl
  try clear ls
  intro ls hl
  refine lv_goto (tgt := 1140) hx hb dL_law_1010 (by decide) ?_
  refine lv_iinc (v := nI (i + 5)) (lv' := [(4, .int (nI (i + 5))), (6, .int r_5), (5, .int r_1), (3, .ref out), (2, .ref hm), (1, .ref h0), (0, .ref b)]) hx hb dL_law_1140 hl (k := 2) rfl (nI_add i 5) (by decide) rfl ?_
  clear hl
  try clear ls
  intro ls hl
  refine lv_goto (tgt := 23) hx hb dL_law_1143 (by decide) ?_
  exact W.widen (by omega) (by omega) (hnext n k al be en ea pr cN cI cF cG cP cQ mN_12 mI_13 mF_14 pot pot_7 wu_2 w_6 og_u_2 _ _ _ hG hR_15 hO_16 (hV_17.mono (by omega)) hw_4 hw_11 hP hD hS (lv_sub hl [0, 3, 4, 5, 6] rfl))

set_option maxHeartbeats 4000000 in
set_option maxRecDepth 100000 in
theorem law_case_22 {p : Program} {e : Env} {s : State} {m : MethodId} {below : List Frame} {meth : Method} {c : Code} (l : Launch) (hfl : l.stackTraces = false) {D : va_G} {cs : Nat → ClassId} {A : Nat → Prop} {b L : Nat} {xs : Nat → Int32} (C : xC p room_1 s m #[Value.ref b] meth c ⟨"SampleHouseLaw", meth.name, ""⟩ code 7 ret D cs A) (hTH : xTH s) (hZ0 : xZ A s s.heap) (hX : va_X b L xs s s.heap) (hbl : b < s.heap.size) (hbA : ¬ A b) {h0 hm out i : Nat} (hL : L ≤ 2560) (hi : i + 5 ≤ L) (hnext : LawAt p l e s m below meth c D cs A b h0 hm out (i + 5)) {n k al be en : Nat} {ea pr : Int32} {cN : Nat → Nat} {cI : Nat → Int32} {cF : Nat → Nat → Int32} {cG : Nat → Nat → Nat → Int32} {cP : Nat → Nat → Nat → Int32} {cQ : Nat → Nat → Nat → Int32} {mN : Nat → Nat} {mI : Nat → Int32} {mF : Nat → Nat → Int32} {pot potm : Nat} {w wm : va_W} {og : Nat → Int64} (hG : GP n k al be en) (hR : RelB n be en ea pr cN cI cF cG cP cQ mN mI mF) (hO : OkM mN mF) (hV : RelS n k al be pr (1 + i) cN cI cG mF) (hw : CW cs h0 n k al be en ea pr cN cI cF cG cP cQ pot w) (hmw : MW cs hm n k al be en ea pr mN mI mF potm wm) {H : Heap} {locs : List Loc} {ls : Array Slot} (hP : va_P D vwCl (w ++ (wm ++ [(out, .inl (cs 1, 1, .inr (.inl og)))])) H) (hD : va_D A (w ++ (wm ++ [(out, .inl (cs 1, 1, .inr (.inl og)))]))) (hS : va_S A s.heap H locs) (hl : lv_has ls 7 [(4, .int (nI i)), (3, .ref out), (2, .ref hm), (1, .ref h0), (0, .ref b)]) : W p l e room_1 s m #[Value.ref b] below meth c H locs (300 + 120 * i) ((20000 + 300 * i + potm) + pot) (lw_Z below #[Value.ref b] s) (F0 m 1013 ls []) := by
  have hx := C.1
  have hb := C.2.1
  have hz := C.2.2.2.2.1
  have hown := C.2.2.2.1
  have hA := C.2.2.2.2.2.2.2.2.2
  have hpot := hw.pot
  have hpotm := hmw.pot
  refine lv_aload_n hx hb dL_law_1013 rfl (lv_at hl 3 rfl) ?_
  refine lv_aload_n hx hb dL_law_1014 rfl (lv_at hl 4 rfl) ?_
  refine lv_iload hx hb dL_law_1015 (lv_at hl 0 rfl) ?_
  refine lv_iconst (v := nI 1) hx hb dL_law_1017 (by decide) ?_
  refine lv_iadd hx hb dL_law_1018 ?_
  refine lv_topi (nm_r (e' := nI (i + 1)) (nI_add _ _) ?_)
  refine va_sld hx hb hX hbl hbA hS (pk_in (i + 1) L (by omega)) dL_law_1019 ?_
  refine lv_topi (nm_r (e' := xs (i + 1)) (by rw [nI_clamp (by omega)]) ?_)
  refine lv_aload_n hx hb dL_law_1020 rfl (lv_at hl 4 rfl) ?_
  refine lv_iload hx hb dL_law_1021 (lv_at hl 0 rfl) ?_
  refine lv_iconst (v := nI 2) hx hb dL_law_1023 (by decide) ?_
  refine lv_iadd hx hb dL_law_1024 ?_
  refine lv_topi (nm_r (e' := nI (i + 2)) (nI_add _ _) ?_)
  refine va_sld hx hb hX hbl hbA hS (pk_in (i + 2) L (by omega)) dL_law_1025 ?_
  refine lv_topi (nm_r (e' := xs (i + 2)) (by rw [nI_clamp (by omega)]) ?_)
  refine lv_aload_n hx hb dL_law_1026 rfl (lv_at hl 4 rfl) ?_
  refine lv_iload hx hb dL_law_1027 (lv_at hl 0 rfl) ?_
  refine lv_iconst (v := nI 3) hx hb dL_law_1029 (by decide) ?_
  refine lv_iadd hx hb dL_law_1030 ?_
  refine lv_topi (nm_r (e' := nI (i + 3)) (nI_add _ _) ?_)
  refine va_sld hx hb hX hbl hbA hS (pk_in (i + 3) L (by omega)) dL_law_1031 ?_
  refine lv_topi (nm_r (e' := xs (i + 3)) (by rw [nI_clamp (by omega)]) ?_)
  refine lv_aload_n hx hb dL_law_1032 rfl (lv_at hl 1 rfl) ?_
  refine law_H (n := 5) (sl := (20000 + 300 * i + potm)) (As := [.ref h0, .int (xs (i + 1)), .int (xs (i + 2)), .int (xs (i + 3)), .ref out]) (rest := []) C (k_L_set hfl hG (xs (i + 1)) (xs (i + 2)) (xs (i + 3)) hw wm out og) zcw_set zw1_0 zw5_193 zw5_194 (by decide +kernel) hTH hZ0 hP hD hS (by decide) ⟨Nat.le_of_ble_eq_true rfl, Nat.le_of_ble_eq_true rfl⟩ ⟨by show _ ≤ 601024; omega, by show _ ≤ 7293034; omega⟩ rfl hl.1 rfl (Nat.le_of_ble_eq_true rfl) dL_law_1033 ?_
  clear hP hD hS
  try clear locs
  try clear H
  rintro r_1 ⟨wu_2, og_u_2⟩ H locs hp_3 hP hD hS
  have hw_4 := hp_3.2
  refine W.widen (k := 300 + 120 * i + 200) (n := (20000 + 300 * i + 500 + potm) + pot) (by omega) (by omega) ?_
  refine lv_istore (lv' := [(5, .int r_1), (4, .int (nI i)), (3, .ref out), (2, .ref hm), (1, .ref h0), (0, .ref b)]) hx hb dL_law_1036 hl (by decide) rfl ?_
  clear hl
  try clear ls
  intro ls hl
  refine lv_aload_n hx hb dL_law_1038 rfl (lv_at hl 3 rfl) ?_
  refine lv_aload_n hx hb dL_law_1039 rfl (lv_at hl 5 rfl) ?_
  refine lv_iload hx hb dL_law_1040 (lv_at hl 1 rfl) ?_
  refine lv_iconst (v := nI 1) hx hb dL_law_1042 (by decide) ?_
  refine lv_iadd hx hb dL_law_1043 ?_
  refine lv_topi (nm_r (e' := nI (i + 1)) (nI_add _ _) ?_)
  refine va_sld hx hb hX hbl hbA hS (pk_in (i + 1) L (by omega)) dL_law_1044 ?_
  refine lv_topi (nm_r (e' := xs (i + 1)) (by rw [nI_clamp (by omega)]) ?_)
  refine lv_aload_n hx hb dL_law_1045 rfl (lv_at hl 5 rfl) ?_
  refine lv_iload hx hb dL_law_1046 (lv_at hl 1 rfl) ?_
  refine lv_iconst (v := nI 2) hx hb dL_law_1048 (by decide) ?_
  refine lv_iadd hx hb dL_law_1049 ?_
  refine lv_topi (nm_r (e' := nI (i + 2)) (nI_add _ _) ?_)
  refine va_sld hx hb hX hbl hbA hS (pk_in (i + 2) L (by omega)) dL_law_1050 ?_
  refine lv_topi (nm_r (e' := xs (i + 2)) (by rw [nI_clamp (by omega)]) ?_)
  refine lv_aload_n hx hb dL_law_1051 rfl (lv_at hl 5 rfl) ?_
  refine lv_iload hx hb dL_law_1052 (lv_at hl 1 rfl) ?_
  refine lv_iconst (v := nI 3) hx hb dL_law_1054 (by decide) ?_
  refine lv_iadd hx hb dL_law_1055 ?_
  refine lv_topi (nm_r (e' := nI (i + 3)) (nI_add _ _) ?_)
  refine va_sld hx hb hX hbl hbA hS (pk_in (i + 3) L (by omega)) dL_law_1056 ?_
  refine lv_topi (nm_r (e' := xs (i + 3)) (by rw [nI_clamp (by omega)]) ?_)
  replace hP := pP_perm permSwap hP
  replace hD := pD_perm permSwap hD
  refine W.widen (k := 300 + 120 * i + 200) (n := (20000 + 300 * i + 500 + pot) + potm) (by omega) (by omega) ?_
  refine law_i (sl := (20000 + 300 * i + 500 + pot)) (wr := (wu_2 ++ [(out, .inl (cs 1, 1, .inr (.inl og_u_2)))])) (ci := 12) (As := [.int (xs (i + 1)), .int (xs (i + 2)), .int (xs (i + 3))]) (rest := []) C (k_X12_set hG (xs (i + 1)) (xs (i + 2)) (xs (i + 3)) hmw) kL_121 hP hD hS (MW.mem hmw) rfl rfl (by decide) ⟨Nat.le_of_ble_eq_true rfl, Nat.le_of_ble_eq_true rfl⟩ ⟨by show _ ≤ 601024; omega, by show _ ≤ 7293034; omega⟩ rfl hl.1 rfl (Nat.le_of_ble_eq_true rfl) dL_law_1057 ?_
  clear hP hD hS
  try clear locs
  try clear H
  intro r_5 w_6 pot_7 H locs hp_8 hP hD hS
  replace hP := pP_perm permSwap hP
  replace hD := pD_perm permSwap hD
  refine W.widen (k := 300 + 120 * i + 200 + 200) (n := (20000 + 300 * i + 500 + 500 + pot_7) + pot) (by omega) (by omega) ?_
  obtain ⟨mN_12, mI_13, mF_14, hm_9, he_10, hw_11⟩ := hp_8
  have hO_16 := hO.same he_10.1 (fun j _ => congrFun he_10.2.2.2.1 j) he_10.2.2.2.2.1
  have hR_15 := hR.same rfl rfl rfl rfl rfl rfl rfl rfl rfl rfl rfl rfl rfl rfl rfl rfl rfl rfl he_10.1 he_10.2.1 he_10.2.2.1 (fun j _ => congrFun he_10.2.2.2.1 j) he_10.2.2.2.2.1 he_10.2.2.2.2.2.1 he_10.2.2.2.2.2.2.1 he_10.2.2.2.2.2.2.2.1 he_10.2.2.2.2.2.2.2.2.1 he_10.2.2.2.2.2.2.2.2.2
  have hV_17 := hV.up (pr2 := pr) rfl rfl rfl rfl (Or.inl ⟨rfl, (fun j hj => ((fun j _ => congrFun he_10.2.2.2.1 j) j (by omega)).symm), rfl⟩)
  have hb_18 := MW.pot hw_11
  refine lv_istore (lv' := [(6, .int r_5), (5, .int r_1), (4, .int (nI i)), (3, .ref out), (2, .ref hm), (1, .ref h0), (0, .ref b)]) hx hb dL_law_1060 hl (by decide) rfl ?_
  clear hl
  try clear ls
  intro ls hl
  refine lv_goto (tgt := 1140) hx hb dL_law_1062 (by decide) ?_
  refine lv_iinc (v := nI (i + 5)) (lv' := [(4, .int (nI (i + 5))), (6, .int r_5), (5, .int r_1), (3, .ref out), (2, .ref hm), (1, .ref h0), (0, .ref b)]) hx hb dL_law_1140 hl (k := 2) rfl (nI_add i 5) (by decide) rfl ?_
  clear hl
  try clear ls
  intro ls hl
  refine lv_goto (tgt := 23) hx hb dL_law_1143 (by decide) ?_
  exact W.widen (by omega) (by omega) (hnext n k al be en ea pr cN cI cF cG cP cQ mN_12 mI_13 mF_14 pot pot_7 wu_2 w_6 og_u_2 _ _ _ hG hR_15 hO_16 (hV_17.mono (by omega)) hw_4 hw_11 hP hD hS (lv_sub hl [0, 3, 4, 5, 6] rfl))

set_option maxHeartbeats 4000000 in
set_option maxRecDepth 100000 in
theorem law_case_23 {p : Program} {e : Env} {s : State} {m : MethodId} {below : List Frame} {meth : Method} {c : Code} (l : Launch) (hfl : l.stackTraces = false) {D : va_G} {cs : Nat → ClassId} {A : Nat → Prop} {b L : Nat} {xs : Nat → Int32} (C : xC p room_1 s m #[Value.ref b] meth c ⟨"SampleHouseLaw", meth.name, ""⟩ code 7 ret D cs A) (hTH : xTH s) (hZ0 : xZ A s s.heap) (hX : va_X b L xs s s.heap) (hbl : b < s.heap.size) (hbA : ¬ A b) {h0 hm out i : Nat} (hL : L ≤ 2560) (hi : i + 5 ≤ L) (hnext : LawAt p l e s m below meth c D cs A b h0 hm out (i + 5)) {n k al be en : Nat} {ea pr : Int32} {cN : Nat → Nat} {cI : Nat → Int32} {cF : Nat → Nat → Int32} {cG : Nat → Nat → Nat → Int32} {cP : Nat → Nat → Nat → Int32} {cQ : Nat → Nat → Nat → Int32} {mN : Nat → Nat} {mI : Nat → Int32} {mF : Nat → Nat → Int32} {pot potm : Nat} {w wm : va_W} {og : Nat → Int64} (hG : GP n k al be en) (hR : RelB n be en ea pr cN cI cF cG cP cQ mN mI mF) (hO : OkM mN mF) (hV : RelS n k al be pr (1 + i) cN cI cG mF) (hw : CW cs h0 n k al be en ea pr cN cI cF cG cP cQ pot w) (hmw : MW cs hm n k al be en ea pr mN mI mF potm wm) {H : Heap} {locs : List Loc} {ls : Array Slot} (hP : va_P D vwCl (w ++ (wm ++ [(out, .inl (cs 1, 1, .inr (.inl og)))])) H) (hD : va_D A (w ++ (wm ++ [(out, .inl (cs 1, 1, .inr (.inl og)))]))) (hS : va_S A s.heap H locs) (hl : lv_has ls 7 [(4, .int (nI i)), (3, .ref out), (2, .ref hm), (1, .ref h0), (0, .ref b)]) : W p l e room_1 s m #[Value.ref b] below meth c H locs (300 + 120 * i) ((20000 + 300 * i + potm) + pot) (lw_Z below #[Value.ref b] s) (F0 m 1065 ls []) := by
  have hx := C.1
  have hb := C.2.1
  have hz := C.2.2.2.2.1
  have hown := C.2.2.2.1
  have hA := C.2.2.2.2.2.2.2.2.2
  have hpot := hw.pot
  have hpotm := hmw.pot
  refine lv_aload_n hx hb dL_law_1065 rfl (lv_at hl 3 rfl) ?_
  refine lv_aload_n hx hb dL_law_1066 rfl (lv_at hl 4 rfl) ?_
  refine lv_iload hx hb dL_law_1067 (lv_at hl 0 rfl) ?_
  refine lv_iconst (v := nI 1) hx hb dL_law_1069 (by decide) ?_
  refine lv_iadd hx hb dL_law_1070 ?_
  refine lv_topi (nm_r (e' := nI (i + 1)) (nI_add _ _) ?_)
  refine va_sld hx hb hX hbl hbA hS (pk_in (i + 1) L (by omega)) dL_law_1071 ?_
  refine lv_topi (nm_r (e' := xs (i + 1)) (by rw [nI_clamp (by omega)]) ?_)
  refine lv_aload_n hx hb dL_law_1072 rfl (lv_at hl 4 rfl) ?_
  refine lv_iload hx hb dL_law_1073 (lv_at hl 0 rfl) ?_
  refine lv_iconst (v := nI 2) hx hb dL_law_1075 (by decide) ?_
  refine lv_iadd hx hb dL_law_1076 ?_
  refine lv_topi (nm_r (e' := nI (i + 2)) (nI_add _ _) ?_)
  refine va_sld hx hb hX hbl hbA hS (pk_in (i + 2) L (by omega)) dL_law_1077 ?_
  refine lv_topi (nm_r (e' := xs (i + 2)) (by rw [nI_clamp (by omega)]) ?_)
  refine law_i (sl := (20000 + 300 * i + potm)) (wr := (wm ++ [(out, .inl (cs 1, 1, .inr (.inl og)))])) (ci := 11) (As := [.int (xs (i + 1)), .int (xs (i + 2))]) (rest := []) C (k_X11_alike hG (xs (i + 1)) (xs (i + 2)) hw) kL_122 hP hD hS (CW.mem hw) rfl rfl (by decide) ⟨Nat.le_of_ble_eq_true rfl, Nat.le_of_ble_eq_true rfl⟩ ⟨by show _ ≤ 601024; omega, by show _ ≤ 7293034; omega⟩ rfl hl.1 rfl (Nat.le_of_ble_eq_true rfl) dL_law_1078 ?_
  clear hP hD hS
  try clear locs
  try clear H
  intro r_1 w_2 pot_3 H locs hp_4 hP hD hS
  refine W.widen (k := 300 + 120 * i + 200) (n := (20000 + 300 * i + 500 + potm) + pot_3) (by omega) (by omega) ?_
  obtain ⟨cN_8, cI_9, cF_10, cG_11, cP_12, cQ_13, hm_5, he_6, hw_7⟩ := hp_4
  have hb_14 := CW.pot hw_7
  refine lv_pop hx hb dL_law_1081 rfl ?_
  refine lv_aload_n hx hb dL_law_1082 rfl (lv_at hl 2 rfl) ?_
  refine lv_aload_n hx hb dL_law_1083 rfl (lv_at hl 4 rfl) ?_
  refine lv_iload hx hb dL_law_1084 (lv_at hl 0 rfl) ?_
  refine lv_iconst (v := nI 1) hx hb dL_law_1086 (by decide) ?_
  refine lv_iadd hx hb dL_law_1087 ?_
  refine lv_topi (nm_r (e' := nI (i + 1)) (nI_add _ _) ?_)
  refine va_sld hx hb hX hbl hbA hS (pk_in (i + 1) L (by omega)) dL_law_1088 ?_
  refine lv_topi (nm_r (e' := xs (i + 1)) (by rw [nI_clamp (by omega)]) ?_)
  refine lv_aload_n hx hb dL_law_1089 rfl (lv_at hl 4 rfl) ?_
  refine lv_iload hx hb dL_law_1090 (lv_at hl 0 rfl) ?_
  refine lv_iconst (v := nI 2) hx hb dL_law_1092 (by decide) ?_
  refine lv_iadd hx hb dL_law_1093 ?_
  refine lv_topi (nm_r (e' := nI (i + 2)) (nI_add _ _) ?_)
  refine va_sld hx hb hX hbl hbA hS (pk_in (i + 2) L (by omega)) dL_law_1094 ?_
  refine lv_topi (nm_r (e' := xs (i + 2)) (by rw [nI_clamp (by omega)]) ?_)
  replace hP := pP_perm permSwap hP
  replace hD := pD_perm permSwap hD
  refine W.widen (k := 300 + 120 * i + 200) (n := (20000 + 300 * i + 500 + pot_3) + potm) (by omega) (by omega) ?_
  refine law_i (sl := (20000 + 300 * i + 500 + pot_3)) (wr := (w_2 ++ [(out, .inl (cs 1, 1, .inr (.inl og)))])) (ci := 12) (As := [.int (xs (i + 1)), .int (xs (i + 2))]) (rest := []) C (k_X12_alike hG (xs (i + 1)) (xs (i + 2)) hmw) kL_125 hP hD hS (MW.mem hmw) rfl rfl (by decide) ⟨Nat.le_of_ble_eq_true rfl, Nat.le_of_ble_eq_true rfl⟩ ⟨by show _ ≤ 601024; omega, by show _ ≤ 7293034; omega⟩ rfl hl.1 rfl (Nat.le_of_ble_eq_true rfl) dL_law_1095 ?_
  clear hP hD hS
  try clear locs
  try clear H
  intro r_15 w_16 pot_17 H locs hp_18 hP hD hS
  replace hP := pP_perm permSwap hP
  replace hD := pD_perm permSwap hD
  refine W.widen (k := 300 + 120 * i + 200 + 200) (n := (20000 + 300 * i + 500 + 500 + pot_17) + pot_3) (by omega) (by omega) ?_
  obtain ⟨mN_22, mI_23, mF_24, hm_19, he_20, hw_21⟩ := hp_18
  have hO_26 := hO.same he_20.1 (fun j _ => congrFun he_20.2.2.2.1 j) he_20.2.2.2.2.1
  have hb_hR_25 := br_alike hG hR hm_5 he_6 hm_19 he_20
  have hR_25 := hb_hR_25.1
  have hV_27 := hV.up (pr2 := pr) he_6.2.2.2.2.2.2.2.2.2.2.2.2.2.2.2.2.2.2.2.1 he_6.2.2.2.2.2.2.2.2.2.2.2.2.2.2.2.2.2.2.2.2.1 he_6.2.2.2.2.2.2.2.2.2.2.2.2.2.2.2.2.2.2.2.2.2.2.1 he_6.2.2.2.2.2.2.2.2.2.2.2.2.2.2.2.2.2.2.2.2.2.2.2 (Or.inl ⟨he_6.2.2.2.2.2.2.2.2.2.2.2.2.2.2.2.2.2.2.2.2.2.1, (fun j hj => ((fun j _ => congrFun he_20.2.2.2.1 j) j (by omega)).symm), rfl⟩)
  have hb_28 := MW.pot hw_21
  refine lv_pop hx hb dL_law_1098 rfl ?_
  refine lv_goto (tgt := 1140) hx hb dL_law_1099 (by decide) ?_
  refine lv_iinc (v := nI (i + 5)) (lv' := [(4, .int (nI (i + 5))), (3, .ref out), (2, .ref hm), (1, .ref h0), (0, .ref b)]) hx hb dL_law_1140 hl (k := 0) rfl (nI_add i 5) (by decide) rfl ?_
  clear hl
  try clear ls
  intro ls hl
  refine lv_goto (tgt := 23) hx hb dL_law_1143 (by decide) ?_
  exact W.widen (by omega) (by omega) (hnext n k al be en ea pr cN_8 cI_9 cF_10 cG_11 cP_12 cQ_13 mN_22 mI_23 mF_24 pot_3 pot_17 w_2 w_16 og _ _ _ hG hR_25 hO_26 (hV_27.mono (by omega)) hw_7 hw_21 hP hD hS (lv_sub hl [0, 1, 2, 3, 4] rfl))

set_option maxHeartbeats 4000000 in
set_option maxRecDepth 100000 in
theorem law_case_24 {p : Program} {e : Env} {s : State} {m : MethodId} {below : List Frame} {meth : Method} {c : Code} (l : Launch) (hfl : l.stackTraces = false) {D : va_G} {cs : Nat → ClassId} {A : Nat → Prop} {b L : Nat} {xs : Nat → Int32} (C : xC p room_1 s m #[Value.ref b] meth c ⟨"SampleHouseLaw", meth.name, ""⟩ code 7 ret D cs A) (hTH : xTH s) (hZ0 : xZ A s s.heap) (hX : va_X b L xs s s.heap) (hbl : b < s.heap.size) (hbA : ¬ A b) {h0 hm out i : Nat} (hL : L ≤ 2560) (hi : i + 5 ≤ L) (hnext : LawAt p l e s m below meth c D cs A b h0 hm out (i + 5)) {n k al be en : Nat} {ea pr : Int32} {cN : Nat → Nat} {cI : Nat → Int32} {cF : Nat → Nat → Int32} {cG : Nat → Nat → Nat → Int32} {cP : Nat → Nat → Nat → Int32} {cQ : Nat → Nat → Nat → Int32} {mN : Nat → Nat} {mI : Nat → Int32} {mF : Nat → Nat → Int32} {pot potm : Nat} {w wm : va_W} {og : Nat → Int64} (hG : GP n k al be en) (hR : RelB n be en ea pr cN cI cF cG cP cQ mN mI mF) (hO : OkM mN mF) (hV : RelS n k al be pr (1 + i) cN cI cG mF) (hw : CW cs h0 n k al be en ea pr cN cI cF cG cP cQ pot w) (hmw : MW cs hm n k al be en ea pr mN mI mF potm wm) {H : Heap} {locs : List Loc} {ls : Array Slot} (hP : va_P D vwCl (w ++ (wm ++ [(out, .inl (cs 1, 1, .inr (.inl og)))])) H) (hD : va_D A (w ++ (wm ++ [(out, .inl (cs 1, 1, .inr (.inl og)))]))) (hS : va_S A s.heap H locs) (hl : lv_has ls 7 [(4, .int (nI i)), (3, .ref out), (2, .ref hm), (1, .ref h0), (0, .ref b)]) : W p l e room_1 s m #[Value.ref b] below meth c H locs (300 + 120 * i) ((20000 + 300 * i + potm) + pot) (lw_Z below #[Value.ref b] s) (F0 m 1102 ls []) := by
  have hx := C.1
  have hb := C.2.1
  have hz := C.2.2.2.2.1
  have hown := C.2.2.2.1
  have hA := C.2.2.2.2.2.2.2.2.2
  have hpot := hw.pot
  have hpotm := hmw.pot
  refine lv_aload_n hx hb dL_law_1102 rfl (lv_at hl 3 rfl) ?_
  refine law_i (sl := (20000 + 300 * i + potm)) (wr := (wm ++ [(out, .inl (cs 1, 1, .inr (.inl og)))])) (ci := 11) (As := []) (rest := []) C (k_X11_back hG hw) kL_126 hP hD hS (CW.mem hw) rfl rfl (by decide) ⟨Nat.le_of_ble_eq_true rfl, Nat.le_of_ble_eq_true rfl⟩ ⟨by show _ ≤ 601024; omega, by show _ ≤ 7293034; omega⟩ rfl hl.1 rfl (Nat.le_of_ble_eq_true rfl) dL_law_1103 ?_
  clear hP hD hS
  try clear locs
  try clear H
  intro r_1 w_2 pot_3 H locs hp_4 hP hD hS
  refine W.widen (k := 300 + 120 * i + 200) (n := (20000 + 300 * i + 500 + potm) + pot_3) (by omega) (by omega) ?_
  obtain ⟨cN_8, cI_9, cF_10, cG_11, cP_12, cQ_13, hm_5, he_6, hw_7⟩ := hp_4
  have hb_14 := CW.pot hw_7
  refine lv_pop hx hb dL_law_1106 rfl ?_
  refine lv_aload_n hx hb dL_law_1107 rfl (lv_at hl 2 rfl) ?_
  replace hP := pP_perm permSwap hP
  replace hD := pD_perm permSwap hD
  refine W.widen (k := 300 + 120 * i + 200) (n := (20000 + 300 * i + 500 + pot_3) + potm) (by omega) (by omega) ?_
  refine law_i (sl := (20000 + 300 * i + 500 + pot_3)) (wr := (w_2 ++ [(out, .inl (cs 1, 1, .inr (.inl og)))])) (ci := 12) (As := []) (rest := []) C (k_X12_back hG hmw) kL_130 hP hD hS (MW.mem hmw) rfl rfl (by decide) ⟨Nat.le_of_ble_eq_true rfl, Nat.le_of_ble_eq_true rfl⟩ ⟨by show _ ≤ 601024; omega, by show _ ≤ 7293034; omega⟩ rfl hl.1 rfl (Nat.le_of_ble_eq_true rfl) dL_law_1108 ?_
  clear hP hD hS
  try clear locs
  try clear H
  intro r_15 w_16 pot_17 H locs hp_18 hP hD hS
  replace hP := pP_perm permSwap hP
  replace hD := pD_perm permSwap hD
  refine W.widen (k := 300 + 120 * i + 200 + 200) (n := (20000 + 300 * i + 500 + 500 + pot_17) + pot_3) (by omega) (by omega) ?_
  obtain ⟨mN_22, mI_23, mF_24, hm_19, he_20, hw_21⟩ := hp_18
  have hO_26 := ok_back hG hR hO hm_19 he_20
  have hb_hR_25 := br_back hG hR hm_5 he_6 hm_19 he_20
  have hR_25 := hb_hR_25.1
  have hV_27 := hV.up he_6.2.2.2.2.2.2.2.2.2.1 he_6.2.2.2.2.2.2.2.2.2.2.1 he_6.2.2.2.2.2.2.2.2.2.2.2.1 he_6.2.2.2.2.2.2.2.2.2.2.2.2 (hb_hR_25.2.2.imp (fun q => ⟨q.1, q.2, rfl⟩) id)
  have hb_28 := MW.pot hw_21
  refine lv_pop hx hb dL_law_1111 rfl ?_
  refine lv_goto (tgt := 1140) hx hb dL_law_1112 (by decide) ?_
  refine lv_iinc (v := nI (i + 5)) (lv' := [(4, .int (nI (i + 5))), (3, .ref out), (2, .ref hm), (1, .ref h0), (0, .ref b)]) hx hb dL_law_1140 hl (k := 0) rfl (nI_add i 5) (by decide) rfl ?_
  clear hl
  try clear ls
  intro ls hl
  refine lv_goto (tgt := 23) hx hb dL_law_1143 (by decide) ?_
  exact W.widen (by omega) (by omega) (hnext n k al be en ea pr cN_8 cI_9 cF_10 cG_11 cP_12 cQ_13 mN_22 mI_23 mF_24 pot_3 pot_17 w_2 w_16 og _ _ _ hG hR_25 hO_26 (hV_27.mono (by omega)) hw_7 hw_21 hP hD hS (lv_sub hl [0, 1, 2, 3, 4] rfl))

set_option maxHeartbeats 4000000 in
set_option maxRecDepth 100000 in
theorem law_case_25 {p : Program} {e : Env} {s : State} {m : MethodId} {below : List Frame} {meth : Method} {c : Code} (l : Launch) (hfl : l.stackTraces = false) {D : va_G} {cs : Nat → ClassId} {A : Nat → Prop} {b L : Nat} {xs : Nat → Int32} (C : xC p room_1 s m #[Value.ref b] meth c ⟨"SampleHouseLaw", meth.name, ""⟩ code 7 ret D cs A) (hTH : xTH s) (hZ0 : xZ A s s.heap) (hX : va_X b L xs s s.heap) (hbl : b < s.heap.size) (hbA : ¬ A b) {h0 hm out i : Nat} (hL : L ≤ 2560) (hi : i + 5 ≤ L) (hnext : LawAt p l e s m below meth c D cs A b h0 hm out (i + 5)) {n k al be en : Nat} {ea pr : Int32} {cN : Nat → Nat} {cI : Nat → Int32} {cF : Nat → Nat → Int32} {cG : Nat → Nat → Nat → Int32} {cP : Nat → Nat → Nat → Int32} {cQ : Nat → Nat → Nat → Int32} {mN : Nat → Nat} {mI : Nat → Int32} {mF : Nat → Nat → Int32} {pot potm : Nat} {w wm : va_W} {og : Nat → Int64} (hG : GP n k al be en) (hR : RelB n be en ea pr cN cI cF cG cP cQ mN mI mF) (hO : OkM mN mF) (hV : RelS n k al be pr (1 + i) cN cI cG mF) (hw : CW cs h0 n k al be en ea pr cN cI cF cG cP cQ pot w) (hmw : MW cs hm n k al be en ea pr mN mI mF potm wm) {H : Heap} {locs : List Loc} {ls : Array Slot} (hP : va_P D vwCl (w ++ (wm ++ [(out, .inl (cs 1, 1, .inr (.inl og)))])) H) (hD : va_D A (w ++ (wm ++ [(out, .inl (cs 1, 1, .inr (.inl og)))]))) (hS : va_S A s.heap H locs) (hl : lv_has ls 7 [(4, .int (nI i)), (3, .ref out), (2, .ref hm), (1, .ref h0), (0, .ref b)]) : W p l e room_1 s m #[Value.ref b] below meth c H locs (300 + 120 * i) ((20000 + 300 * i + potm) + pot) (lw_Z below #[Value.ref b] s) (F0 m 1115 ls []) := by
  have hx := C.1
  have hb := C.2.1
  have hz := C.2.2.2.2.1
  have hown := C.2.2.2.1
  have hA := C.2.2.2.2.2.2.2.2.2
  have hpot := hw.pot
  have hpotm := hmw.pot
  refine lv_aload_n hx hb dL_law_1115 rfl (lv_at hl 3 rfl) ?_
  refine lv_aload_n hx hb dL_law_1116 rfl (lv_at hl 4 rfl) ?_
  refine lv_iload hx hb dL_law_1117 (lv_at hl 0 rfl) ?_
  refine lv_iconst (v := nI 1) hx hb dL_law_1119 (by decide) ?_
  refine lv_iadd hx hb dL_law_1120 ?_
  refine lv_topi (nm_r (e' := nI (i + 1)) (nI_add _ _) ?_)
  refine va_sld hx hb hX hbl hbA hS (pk_in (i + 1) L (by omega)) dL_law_1121 ?_
  refine lv_topi (nm_r (e' := xs (i + 1)) (by rw [nI_clamp (by omega)]) ?_)
  refine law_i (sl := (20000 + 300 * i + potm)) (wr := (wm ++ [(out, .inl (cs 1, 1, .inr (.inl og)))])) (ci := 11) (As := [.int (xs (i + 1))]) (rest := []) C (k_X11_count hG (xs (i + 1)) (hR.accq hG.2.2.2.2) hw) kL_131 hP hD hS (CW.mem hw) rfl rfl (by decide) ⟨Nat.le_of_ble_eq_true rfl, Nat.le_of_ble_eq_true rfl⟩ ⟨by show _ ≤ 601024; omega, by show _ ≤ 7293034; omega⟩ rfl hl.1 rfl (Nat.le_of_ble_eq_true rfl) dL_law_1122 ?_
  clear hP hD hS
  try clear locs
  try clear H
  intro r_1 w_2 pot_3 H locs hp_4 hP hD hS
  refine W.widen (k := 300 + 120 * i + 200) (n := (20000 + 300 * i + 500 + potm) + pot_3) (by omega) (by omega) ?_
  obtain ⟨cN_8, cI_9, cF_10, cG_11, cP_12, cQ_13, hm_5, he_6, hw_7⟩ := hp_4
  have hb_14 := CW.pot hw_7
  refine lv_pop hx hb dL_law_1125 rfl ?_
  refine lv_aload_n hx hb dL_law_1126 rfl (lv_at hl 2 rfl) ?_
  refine lv_aload_n hx hb dL_law_1127 rfl (lv_at hl 4 rfl) ?_
  refine lv_iload hx hb dL_law_1128 (lv_at hl 0 rfl) ?_
  refine lv_iconst (v := nI 1) hx hb dL_law_1130 (by decide) ?_
  refine lv_iadd hx hb dL_law_1131 ?_
  refine lv_topi (nm_r (e' := nI (i + 1)) (nI_add _ _) ?_)
  refine va_sld hx hb hX hbl hbA hS (pk_in (i + 1) L (by omega)) dL_law_1132 ?_
  refine lv_topi (nm_r (e' := xs (i + 1)) (by rw [nI_clamp (by omega)]) ?_)
  replace hP := pP_perm permSwap hP
  replace hD := pD_perm permSwap hD
  refine W.widen (k := 300 + 120 * i + 200) (n := (20000 + 300 * i + 500 + pot_3) + potm) (by omega) (by omega) ?_
  refine law_i (sl := (20000 + 300 * i + 500 + pot_3)) (wr := (w_2 ++ [(out, .inl (cs 1, 1, .inr (.inl og)))])) (ci := 12) (As := [.int (xs (i + 1))]) (rest := []) C (k_X12_count hG (xs (i + 1)) (hR.accq hG.2.2.2.2) hR.acv hmw) kL_134 hP hD hS (MW.mem hmw) rfl rfl (by decide) ⟨Nat.le_of_ble_eq_true rfl, Nat.le_of_ble_eq_true rfl⟩ ⟨by show _ ≤ 601024; omega, by show _ ≤ 7293034; omega⟩ rfl hl.1 rfl (Nat.le_of_ble_eq_true rfl) dL_law_1133 ?_
  clear hP hD hS
  try clear locs
  try clear H
  intro r_15 w_16 pot_17 H locs hp_18 hP hD hS
  replace hP := pP_perm permSwap hP
  replace hD := pD_perm permSwap hD
  refine W.widen (k := 300 + 120 * i + 200 + 200) (n := (20000 + 300 * i + 500 + 500 + pot_17) + pot_3) (by omega) (by omega) ?_
  obtain ⟨mN_22, mI_23, mF_24, hm_19, he_20, hw_21⟩ := hp_18
  have hO_26 := hO.same he_20.1 (fun j _ => congrFun he_20.2.2.2.1 j) he_20.2.2.2.2.1
  have hb_hR_25 := br_count hG hR hO hm_5 he_6 hm_19 he_20
  have hR_25 := hb_hR_25.1
  have hV_27 := hV.up (pr2 := pr) he_6.2.2.2.2.2.2.2.2.2.2.2.2.2.2.2.2.2.2.2.1 he_6.2.2.2.2.2.2.2.2.2.2.2.2.2.2.2.2.2.2.2.2.1 he_6.2.2.2.2.2.2.2.2.2.2.2.2.2.2.2.2.2.2.2.2.2.2.1 he_6.2.2.2.2.2.2.2.2.2.2.2.2.2.2.2.2.2.2.2.2.2.2.2 (Or.inl ⟨he_6.2.2.2.2.2.2.2.2.2.2.2.2.2.2.2.2.2.2.2.2.2.1, (fun j hj => ((fun j _ => congrFun he_20.2.2.2.1 j) j (by omega)).symm), rfl⟩)
  have hb_28 := MW.pot hw_21
  refine lv_pop hx hb dL_law_1136 rfl ?_
  refine lv_goto (tgt := 1140) hx hb dL_law_1137 (by decide) ?_
  refine lv_iinc (v := nI (i + 5)) (lv' := [(4, .int (nI (i + 5))), (3, .ref out), (2, .ref hm), (1, .ref h0), (0, .ref b)]) hx hb dL_law_1140 hl (k := 0) rfl (nI_add i 5) (by decide) rfl ?_
  clear hl
  try clear ls
  intro ls hl
  refine lv_goto (tgt := 23) hx hb dL_law_1143 (by decide) ?_
  exact W.widen (by omega) (by omega) (hnext n k al be en ea pr cN_8 cI_9 cF_10 cG_11 cP_12 cQ_13 mN_22 mI_23 mF_24 pot_3 pot_17 w_2 w_16 og _ _ _ hG hR_25 hO_26 (hV_27.mono (by omega)) hw_7 hw_21 hP hD hS (lv_sub hl [0, 1, 2, 3, 4] rfl))
