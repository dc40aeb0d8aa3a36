set_option maxHeartbeats 4000000 in
set_option maxRecDepth 100000 in
theorem law_loop {p : Program} {e : Env} {s : State} {m : MethodId} {below : List Frame} {meth : Method} {c : Code} (l : Launch) (hfl : l.stackTraces = false) {D : va_G} {cs : Nat → ClassId} {A : Nat → Prop} {b L : Nat} {xs : Nat → Int32} (C : xC p room_1 s m #[Value.ref b] meth c ⟨"SampleHouseLaw", meth.name, ""⟩ code 7 ret D cs A) (hTH : xTH s) (hZ0 : xZ A s s.heap) (hX : va_X b L xs s s.heap) (hbl : b < s.heap.size) (hbA : ¬ A b) (hA2 : ∀ q, A q → s.heap.size ≤ q) {h0 hm out : Nat} (hL : L ≤ 2560) : ∀ (v i : Nat), L - i < v → i ≤ L → LawAt p l e s m below meth c D cs A b h0 hm out i := by
  intro v
  induction v with
  | zero => intro i h; exact absurd h (Nat.not_lt_zero _)
  | succ v ih =>
    intro i hv hi n k al be en ea pr cN cI cF cG cP cQ mN mI mF pot potm w wm og H locs ls hG hR hO hV hw hmw hP hD hS hl
    have hx := C.1
    have hb := C.2.1
    have hz := C.2.2.2.2.1
    have hown := C.2.2.2.1
    have hA := C.2.2.2.2.2.2.2.2.2
    have hpot := hw.pot
    have hpotm := hmw.pot
    rcases (Nat.lt_or_ge L (i + 5)) with hL5 | hL5
    · -- split
      refine lv_iload hx hb dL_law_23 (lv_at hl 0 rfl) ?_
      refine lv_aload_n hx hb dL_law_25 rfl (lv_at hl 4 rfl) ?_
      refine va_slen hx hb hX hbl hbA hS dL_law_26 ?_
      refine lv_topi (nm_r (e' := nI L) rfl ?_)
      refine lv_iconst (v := nI 5) hx hb dL_law_27 (by decide) ?_
      refine lv_isub hx hb dL_law_28 ?_
      refine lv_icmp_gt (tgt := 1146) hx hb dL_law_29 (by decide) (fun _ => ?_) (fun c => absurd (law_gt hL hi hL5) c)
      refine lv_iconst (v := nI 1) hx hb dL_law_1146 (by decide) ?_
      refine lv_topi (nm_r (e' := 1) rfl ?_)
      exact va_forget (fun q hq => hA2 _ (hS.2.2 q hq)) (W.widen (by omega) (by omega) (W.base (lw_ret (Drawn.sameBut.refl s.drawn lw_cs) hx hb C.2.2.2.2.2.1 C.2.2.2.2.2.2.1 dL_law_1147)))
    · -- split
      refine lv_iload hx hb dL_law_23 (lv_at hl 0 rfl) ?_
      refine lv_aload_n hx hb dL_law_25 rfl (lv_at hl 4 rfl) ?_
      refine va_slen hx hb hX hbl hbA hS dL_law_26 ?_
      refine lv_topi (nm_r (e' := nI L) rfl ?_)
      refine lv_iconst (v := nI 5) hx hb dL_law_27 (by decide) ?_
      refine lv_isub hx hb dL_law_28 ?_
      refine lv_icmp_gt (tgt := 1146) hx hb dL_law_29 (by decide) (fun c => absurd c (law_le hL hL5)) (fun _ => ?_)
      refine lv_aload_n hx hb dL_law_32 rfl (lv_at hl 4 rfl) ?_
      refine lv_iload hx hb dL_law_33 (lv_at hl 0 rfl) ?_
      refine va_sld hx hb hX hbl hbA hS (pk_in (i) L (by omega)) dL_law_35 ?_
      refine lv_topi (nm_r (e' := xs (i)) (by rw [nI_clamp (by omega)]) ?_)
      refine lv_bipush (v := nI 31) hx hb dL_law_36 (by decide) ?_
      obtain ⟨k9, hk9, ek9⟩ := pk_andE (xs i) (m := nI 31) 5 (by decide)
      refine lv_iand hx hb dL_law_38 ?_
      refine lv_topi (nm_r (e' := nI k9) ek9 ?_)
      rcases (show k9 = 0 ∨ k9 = 1 ∨ k9 = 2 ∨ k9 = 3 ∨ k9 = 4 ∨ k9 = 5 ∨ k9 = 6 ∨ k9 = 7 ∨ k9 = 8 ∨ k9 = 9 ∨ k9 = 10 ∨ k9 = 11 ∨ k9 = 12 ∨ k9 = 13 ∨ k9 = 14 ∨ k9 = 15 ∨ k9 = 16 ∨ k9 = 17 ∨ k9 = 18 ∨ k9 = 19 ∨ k9 = 20 ∨ k9 = 21 ∨ k9 = 22 ∨ k9 = 23 ∨ k9 = 24 ∨ k9 = 25 ∨ k9 = 26 ∨ k9 = 27 ∨ k9 = 28 ∨ k9 = 29 ∨ k9 = 30 ∨ k9 = 31 by omega) with rfl | rfl | rfl | rfl | rfl | rfl | rfl | rfl | rfl | rfl | rfl | rfl | rfl | rfl | rfl | rfl | rfl | rfl | rfl | rfl | rfl | rfl | rfl | rfl | rfl | rfl | rfl | rfl | rfl | rfl | rfl | rfl
      · -- k9 = 0
        refine lv_tableIn (tgt := 156) hx hb dL_law_39 (by decide) (by decide) rfl (by decide) ?_
        exact law_case_0 l hfl C hTH hZ0 hX hbl hbA hL (by omega) (ih (i + 5) (by omega) (by omega)) hG hR hO hV hw hmw hP hD hS hl
      · -- k9 = 1
        refine lv_tableIn (tgt := 217) hx hb dL_law_39 (by decide) (by decide) rfl (by decide) ?_
        exact law_case_1 l hfl C hTH hZ0 hX hbl hbA hL (by omega) (ih (i + 5) (by omega) (by omega)) hG hR hO hV hw hmw hP hD hS hl
      · -- k9 = 2
        refine lv_tableIn (tgt := 242) hx hb dL_law_39 (by decide) (by decide) rfl (by decide) ?_
        exact law_case_2 l hfl C hTH hZ0 hX hbl hbA hL (by omega) (ih (i + 5) (by omega) (by omega)) hG hR hO hV hw hmw hP hD hS hl
      · -- k9 = 3
        refine lv_tableIn (tgt := 267) hx hb dL_law_39 (by decide) (by decide) rfl (by decide) ?_
        exact law_case_3 l hfl C hTH hZ0 hX hbl hbA hL (by omega) (ih (i + 5) (by omega) (by omega)) hG hR hO hV hw hmw hP hD hS hl
      · -- k9 = 4
        refine lv_tableIn (tgt := 304) hx hb dL_law_39 (by decide) (by decide) rfl (by decide) ?_
        exact law_case_4 l hfl C hTH hZ0 hX hbl hbA hL (by omega) (ih (i + 5) (by omega) (by omega)) hG hR hO hV hw hmw hP hD hS hl
      · -- k9 = 5
        refine lv_tableIn (tgt := 369) hx hb dL_law_39 (by decide) (by decide) rfl (by decide) ?_
        exact law_case_5 l hfl C hTH hZ0 hX hbl hbA hL (by omega) (ih (i + 5) (by omega) (by omega)) hG hR hO hV hw hmw hP hD hS hl
      · -- k9 = 6
        refine lv_tableIn (tgt := 406) hx hb dL_law_39 (by decide) (by decide) rfl (by decide) ?_
        exact law_case_6 l hfl C hTH hZ0 hX hbl hbA hL (by omega) (ih (i + 5) (by omega) (by omega)) hG hR hO hV hw hmw hP hD hS hl
      · -- k9 = 7
        refine lv_tableIn (tgt := 443) hx hb dL_law_39 (by decide) (by decide) rfl (by decide) ?_
        exact law_case_7 l hfl C hTH hZ0 hX hbl hbA hL (by omega) (ih (i + 5) (by omega) (by omega)) hG hR hO hV hw hmw hP hD hS hl
      · -- k9 = 8
        refine lv_tableIn (tgt := 480) hx hb dL_law_39 (by decide) (by decide) rfl (by decide) ?_
        exact law_case_8 l hfl C hTH hZ0 hX hbl hbA hL (by omega) (ih (i + 5) (by omega) (by omega)) hG hR hO hV hw hmw hP hD hS hl
      · -- k9 = 9
        refine lv_tableIn (tgt := 517) hx hb dL_law_39 (by decide) (by decide) rfl (by decide) ?_
        exact law_case_9 l hfl C hTH hZ0 hX hbl hbA hL (by omega) (ih (i + 5) (by omega) (by omega)) hG hR hO hV hw hmw hP hD hS hl
      · -- k9 = 10
        refine lv_tableIn (tgt := 554) hx hb dL_law_39 (by decide) (by decide) rfl (by decide) ?_
        exact law_case_10 l hfl C hTH hZ0 hX hbl hbA hL (by omega) (ih (i + 5) (by omega) (by omega)) hG hR hO hV hw hmw hP hD hS hl
      · -- k9 = 11
        refine lv_tableIn (tgt := 591) hx hb dL_law_39 (by decide) (by decide) rfl (by decide) ?_
        exact law_case_11 l hfl C hTH hZ0 hX hbl hbA hL (by omega) (ih (i + 5) (by omega) (by omega)) hG hR hO hV hw hmw hP hD hS hl
      · -- k9 = 12
        refine lv_tableIn (tgt := 628) hx hb dL_law_39 (by decide) (by decide) rfl (by decide) ?_
        exact law_case_12 l hfl C hTH hZ0 hX hbl hbA hL (by omega) (ih (i + 5) (by omega) (by omega)) hG hR hO hV hw hmw hP hD hS hl
      · -- k9 = 13
        refine lv_tableIn (tgt := 653) hx hb dL_law_39 (by decide) (by decide) rfl (by decide) ?_
        exact law_case_13 l hfl C hTH hZ0 hX hbl hbA hL (by omega) (ih (i + 5) (by omega) (by omega)) hG hR hO hV hw hmw hP hD hS hl
      · -- k9 = 14
        refine lv_tableIn (tgt := 666) hx hb dL_law_39 (by decide) (by decide) rfl (by decide) ?_
        exact law_case_14 l hfl C hTH hZ0 hX hbl hbA hL (by omega) (ih (i + 5) (by omega) (by omega)) hG hR hO hV hw hmw hP hD hS hl
      · -- k9 = 15
        refine lv_tableIn (tgt := 703) hx hb dL_law_39 (by decide) (by decide) rfl (by decide) ?_
        exact law_case_15 l hfl C hTH hZ0 hX hbl hbA hL (by omega) (ih (i + 5) (by omega) (by omega)) hG hR hO hV hw hmw hP hD hS hl
      · -- k9 = 16
        refine lv_tableIn (tgt := 740) hx hb dL_law_39 (by decide) (by decide) rfl (by decide) ?_
        exact law_case_16 l hfl C hTH hZ0 hX hbl hbA hL (by omega) (ih (i + 5) (by omega) (by omega)) hG hR hO hV hw hmw hP hD hS hl
      · -- k9 = 17
        refine lv_tableIn (tgt := 789) hx hb dL_law_39 (by decide) (by decide) rfl (by decide) ?_
        exact law_case_17 l hfl C hTH hZ0 hX hbl hbA hL (by omega) (ih (i + 5) (by omega) (by omega)) hG hR hO hV hw hmw hP hD hS hl
      · -- k9 = 18
        refine lv_tableIn (tgt := 838) hx hb dL_law_39 (by decide) (by decide) rfl (by decide) ?_
        exact law_case_18 l hfl C hTH hZ0 hX hbl hbA hL (by omega) (ih (i + 5) (by omega) (by omega)) hG hR hO hV hw hmw hP hD hS hl
      · -- k9 = 19
        refine lv_tableIn (tgt := 887) hx hb dL_law_39 (by decide) (by decide) rfl (by decide) ?_
        exact law_case_19 l hfl C hTH hZ0 hX hbl hbA hL (by omega) (ih (i + 5) (by omega) (by omega)) hG hR hO hV hw hmw hP hD hS hl
      · -- k9 = 20
        refine lv_tableIn (tgt := 924) hx hb dL_law_39 (by decide) (by decide) rfl (by decide) ?_
        exact law_case_20 l hfl C hTH hZ0 hX hbl hbA hL (by omega) (ih (i + 5) (by omega) (by omega)) hG hR hO hV hw hmw hP hD hS hl
      · -- k9 = 21
        refine lv_tableIn (tgt := 961) hx hb dL_law_39 (by decide) (by decide) rfl (by decide) ?_
        exact law_case_21 l hfl C hTH hZ0 hX hbl hbA hL (by omega) (ih (i + 5) (by omega) (by omega)) hG hR hO hV hw hmw hP hD hS hl
      · -- k9 = 22
        refine lv_tableIn (tgt := 1013) hx hb dL_law_39 (by decide) (by decide) rfl (by decide) ?_
        exact law_case_22 l hfl C hTH hZ0 hX hbl hbA hL (by omega) (ih (i + 5) (by omega) (by omega)) hG hR hO hV hw hmw hP hD hS hl
      · -- k9 = 23
        refine lv_tableIn (tgt := 1065) hx hb dL_law_39 (by decide) (by decide) rfl (by decide) ?_
        exact law_case_23 l hfl C hTH hZ0 hX hbl hbA hL (by omega) (ih (i + 5) (by omega) (by omega)) hG hR hO hV hw hmw hP hD hS hl
      · -- k9 = 24
        refine lv_tableIn (tgt := 1102) hx hb dL_law_39 (by decide) (by decide) rfl (by decide) ?_
        exact law_case_24 l hfl C hTH hZ0 hX hbl hbA hL (by omega) (ih (i + 5) (by omega) (by omega)) hG hR hO hV hw hmw hP hD hS hl
      · -- k9 = 25
        refine lv_tableIn (tgt := 1115) hx hb dL_law_39 (by decide) (by decide) rfl (by decide) ?_
        exact law_case_25 l hfl C hTH hZ0 hX hbl hbA hL (by omega) (ih (i + 5) (by omega) (by omega)) hG hR hO hV hw hmw hP hD hS hl
      · -- k9 = 26
        refine lv_tableOut (tgt := 1140) hx hb dL_law_39 (by decide) (by decide) ?_
        have hnext := ih (i + 5) (by omega) (by omega)
        refine lv_iinc (v := nI (i + 5)) (lv' := [(4, .int (nI (i + 5))), (3, .ref out), (2, .ref hm), (1, .ref h0), (0, .ref b)]) hx hb dL_law_1140 hl (k := 0) rfl (nI_add i 5) (by decide) rfl ?_
        clear hl
        try clear ls
        intro ls hl
        refine lv_goto (tgt := 23) hx hb dL_law_1143 (by decide) ?_
        exact W.widen (by omega) (by omega) (hnext n k al be en ea pr cN cI cF cG cP cQ mN mI mF pot potm w wm og _ _ _ hG hR hO (hV.mono (by omega)) hw hmw hP hD hS (lv_sub hl [0, 1, 2, 3, 4] rfl))
      · -- k9 = 27
        refine lv_tableOut (tgt := 1140) hx hb dL_law_39 (by decide) (by decide) ?_
        have hnext := ih (i + 5) (by omega) (by omega)
        refine lv_iinc (v := nI (i + 5)) (lv' := [(4, .int (nI (i + 5))), (3, .ref out), (2, .ref hm), (1, .ref h0), (0, .ref b)]) hx hb dL_law_1140 hl (k := 0) rfl (nI_add i 5) (by decide) rfl ?_
        clear hl
        try clear ls
        intro ls hl
        refine lv_goto (tgt := 23) hx hb dL_law_1143 (by decide) ?_
        exact W.widen (by omega) (by omega) (hnext n k al be en ea pr cN cI cF cG cP cQ mN mI mF pot potm w wm og _ _ _ hG hR hO (hV.mono (by omega)) hw hmw hP hD hS (lv_sub hl [0, 1, 2, 3, 4] rfl))
      · -- k9 = 28
        refine lv_tableOut (tgt := 1140) hx hb dL_law_39 (by decide) (by decide) ?_
        have hnext := ih (i + 5) (by omega) (by omega)
        refine lv_iinc (v := nI (i + 5)) (lv' := [(4, .int (nI (i + 5))), (3, .ref out), (2, .ref hm), (1, .ref h0), (0, .ref b)]) hx hb dL_law_1140 hl (k := 0) rfl (nI_add i 5) (by decide) rfl ?_
        clear hl
        try clear ls
        intro ls hl
        refine lv_goto (tgt := 23) hx hb dL_law_1143 (by decide) ?_
        exact W.widen (by omega) (by omega) (hnext n k al be en ea pr cN cI cF cG cP cQ mN mI mF pot potm w wm og _ _ _ hG hR hO (hV.mono (by omega)) hw hmw hP hD hS (lv_sub hl [0, 1, 2, 3, 4] rfl))
      · -- k9 = 29
        refine lv_tableOut (tgt := 1140) hx hb dL_law_39 (by decide) (by decide) ?_
        have hnext := ih (i + 5) (by omega) (by omega)
        refine lv_iinc (v := nI (i + 5)) (lv' := [(4, .int (nI (i + 5))), (3, .ref out), (2, .ref hm), (1, .ref h0), (0, .ref b)]) hx hb dL_law_1140 hl (k := 0) rfl (nI_add i 5) (by decide) rfl ?_
        clear hl
        try clear ls
        intro ls hl
        refine lv_goto (tgt := 23) hx hb dL_law_1143 (by decide) ?_
        exact W.widen (by omega) (by omega) (hnext n k al be en ea pr cN cI cF cG cP cQ mN mI mF pot potm w wm og _ _ _ hG hR hO (hV.mono (by omega)) hw hmw hP hD hS (lv_sub hl [0, 1, 2, 3, 4] rfl))
      · -- k9 = 30
        refine lv_tableOut (tgt := 1140) hx hb dL_law_39 (by decide) (by decide) ?_
        have hnext := ih (i + 5) (by omega) (by omega)
        refine lv_iinc (v := nI (i + 5)) (lv' := [(4, .int (nI (i + 5))), (3, .ref out), (2, .ref hm), (1, .ref h0), (0, .ref b)]) hx hb dL_law_1140 hl (k := 0) rfl (nI_add i 5) (by decide) rfl ?_
        clear hl
        try clear ls
        intro ls hl
        refine lv_goto (tgt := 23) hx hb dL_law_1143 (by decide) ?_
        exact W.widen (by omega) (by omega) (hnext n k al be en ea pr cN cI cF cG cP cQ mN mI mF pot potm w wm og _ _ _ hG hR hO (hV.mono (by omega)) hw hmw hP hD hS (lv_sub hl [0, 1, 2, 3, 4] rfl))
      · -- k9 = 31
        refine lv_tableOut (tgt := 1140) hx hb dL_law_39 (by decide) (by decide) ?_
        have hnext := ih (i + 5) (by omega) (by omega)
        refine lv_iinc (v := nI (i + 5)) (lv' := [(4, .int (nI (i + 5))), (3, .ref out), (2, .ref hm), (1, .ref h0), (0, .ref b)]) hx hb dL_law_1140 hl (k := 0) rfl (nI_add i 5) (by decide) rfl ?_
        clear hl
        try clear ls
        intro ls hl
        refine lv_goto (tgt := 23) hx hb dL_law_1143 (by decide) ?_
        exact W.widen (by omega) (by omega) (hnext n k al be en ea pr cN cI cF cG cP cQ mN mI mF pot potm w wm og _ _ _ hG hR hO (hV.mono (by omega)) hw hmw hP hD hS (lv_sub hl [0, 1, 2, 3, 4] rfl))
