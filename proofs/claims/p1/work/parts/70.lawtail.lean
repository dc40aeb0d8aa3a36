set_option maxHeartbeats 4000000 in
set_option maxRecDepth 100000 in
theorem law_case_26 {p : Program} {e : Env} {s : State} {m : MethodId} {below : List Frame} {meth : Method} {c : Code} (l : Launch) (hfl : l.stackTraces = false) {D : va_G} {cs : Nat → ClassId} {A : Nat → Prop} {b : Nat} {xs : Nat → Int32} (C : xC p room_1 s m #[Value.ref b] meth c ⟨"SampleHouseLaw", meth.name, ""⟩ code 7 ret D cs A) (hTH : xTH s) (hZ0 : xZ A s s.heap) (hX : va_X b 5 xs s s.heap) (hbl : b < s.heap.size) (hbA : ¬ A b) (hA2 : ∀ q, A q → s.heap.size ≤ q) (h0 hm out : Nat) {H : Heap} {locs : List Loc} {ls : Array Slot} (hP : va_P D vwCl [] H) (hD : va_D A []) (hS : va_S A s.heap H locs) (hl : lv_has ls 7 [(4, .int (nI 0)), (3, .ref out), (2, .ref hm), (1, .ref h0), (0, .ref b)]) : W p l e room_1 s m #[Value.ref b] below meth c H locs 261 14585 (lw_Z below #[Value.ref b] s) (F0 m 1199 ls []) := by
  have hx := C.1
  have hb := C.2.1
  have hz := C.2.2.2.2.1
  have hown := C.2.2.2.1
  have hA := C.2.2.2.2.2.2.2.2.2
  have hAO := C.2.2.2.2.2.2.2.2.1.2.2
  refine lv_iinc (v := nI 5) (lv' := [(4, .int (nI 5)), (3, .ref out), (2, .ref hm), (1, .ref h0), (0, .ref b)]) hx hb dL_law_1199 hl (k := 0) rfl (by decide) (by decide) rfl ?_
  clear hl
  try clear ls
  intro ls hl
  refine lv_goto (tgt := 23) hx hb dL_law_1202 (by decide) ?_
  refine lv_iload hx hb dL_law_23 (lv_at hl 0 rfl) ?_
  refine lv_aload_n hx hb dL_law_25 rfl (lv_at hl 4 rfl) ?_
  refine va_slen hx hb hX hbl hbA hS dL_law_26 ?_
  refine lv_topi (nm_r (e' := nI 5) rfl ?_)
  refine lv_iconst (v := nI 5) hx hb dL_law_27 (by decide) ?_
  refine lv_isub hx hb dL_law_28 ?_
  refine lv_topi (nm_r (e' := nI 0) (by decide) ?_)
  refine lv_icmp_gt (tgt := 1205) hx hb dL_law_29 (by decide) (fun _ => ?_) (fun c => absurd (by decide) c)
  refine lv_iconst (v := nI 1) hx hb dL_law_1205 (by decide) ?_
  refine lv_topi (nm_r (e' := 1) rfl ?_)
  exact va_forget (fun q hq => hA2 _ (hS.2.2 q hq)) (W.widen (Nat.le_of_ble_eq_true rfl) (Nat.le_of_ble_eq_true rfl) (W.base (lw_ret (Drawn.sameBut.refl s.drawn lw_cs) hx hb C.2.2.2.2.2.1 C.2.2.2.2.2.2.1 dL_law_1206)))
