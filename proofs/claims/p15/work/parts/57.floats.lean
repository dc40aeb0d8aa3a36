theorem fl_ldcw {p : Program} {l : Launch} {e : Env} {R : Room} {s : State} {m : MethodId} {args : Array Value} {below : List Frame} {meth : Method} {c : Code} {locs : List Loc} {cells slots : Nat} {T : State} (X : Stand p l e R s m args below meth c T locs cells slots) (hexec : p.tables.exec = Jvm.exec) {own : String} {index : Nat} {v : UInt32} (hown : s.vm.findClass own = some m.cls)
    (hconst : (Cond.constantFloat own index v).before args s = true) {g : JFrame} (hg : g.method = m) (hdg : decode c.code g.pc = .ok (.ldc_w index, 3)) :
    ∀ target, Steps p.tables e below (T.setTop { g with pc := g.pc + 3, stack := .float v :: g.stack }) target → Steps p.tables e below (T.setTop g) target := by
  obtain ⟨k, cf, hk, hcf, hcp⟩ := Cond.constantFloat_spec hown hconst
  obtain ⟨k', hk', he⟩ := X.warmed.alike.2.2 _ _ hk
  intro target hrest
  subst hg
  jvm_step X.here [hexec, hdg, ldc_w.wp_float (s := T) (f := g) X.here.top hk' (by rw [he]; exact hcf) hcp]
  exact hrest
theorem lv_ldcwf {p : Program} {l : Launch} {e : Env} {R : Room} {s : State} {m : MethodId} {args : Array Value} {below : List Frame} {meth : Method} {c : Code} {H : Heap} {locs : List Loc} {cells slots pc : Nat} {Q : State → Prop} {cc : ByteArray} {ls : Array Slot} {rest : List Value} (hexec : p.tables.exec = Jvm.exec) (hb : c.code = cc) {own : String} {index : Nat} {v : UInt32} (hown : s.vm.findClass own = some m.cls) (hconst : (Jvm.Cond.constantFloat own index v).before args s = true) (hdg : decode cc pc = .ok (.ldc_w index, 3)) (k : W p l e R s m args below meth c H locs cells slots Q (F0 m (pc + 3) ls (.float v :: rest))) : W p l e R s m args below meth c H locs cells slots Q (F0 m pc ls rest) := by
  intro T hT X
  obtain ⟨t, a, b⟩ := k T hT X
  exact ⟨t, fl_ldcw X hexec hown hconst (g := F0 m pc ls rest) rfl (by rw [hb]; exact hdg) t a, b⟩
theorem fl_mul {x y : UInt32} (h : vf_n32 x) (h1 : y &&& 0x7fffffff < 0x7f800000) (h2 : y &&& 0x7fffffff ≠ 0) : vf_n32 (FP.fmul x y) := Jvm.Free.Fl.fmul_outNz (a := x) (b := y) h h1 h2
theorem fl_sub {x y : UInt32} (h : vf_n32 x) (h1 : y &&& 0x7fffffff < 0x7f800000) : vf_n32 (FP.fsub x y) := Jvm.Free.Fl.fsub_out (a := x) (b := y) h h1
theorem fl_div (x : Int64) {y : Int64} (h : y ≠ 0) : vf_n32 (FP.fdiv (FP.l2f x) (FP.l2f y)) := Jvm.Free.Fl.fdiv_out (Jvm.Free.Fl.l2f_fin x).noNaN (Jvm.Free.Fl.l2f_fin y) (Jvm.Free.Fl.l2f_nz h)

set_option maxHeartbeats 4000000 in
set_option maxRecDepth 100000 in
theorem c_X11_bitsOf (l : Launch) (D : va_G) (cs : Nat → ClassId) (x : UInt32) (hnx : vf_n32 x) : xMet l D cs yX11_bitsOf cX11_bitsOf 3 (some .int) ({ frames := 0, cells := 0, slots := 0, locals := 0 } : Room) [.float x] [] (xQi D (fun (r : Int32) (_u : Unit) => True) (fun (_u : Unit) => [])) := by
  refine xMet.intro (by decide) (Nat.le_of_ble_eq_true rfl) ?_
  intro p e s m args below meth c A ls C hP hD hS hl
  have hx := C.1
  have hb := C.2.1
  have hz := C.2.2.2.2.1
  have hown := C.2.2.2.1
  have hA := C.2.2.2.2.2.2.2.2.2
  have hAO := C.2.2.2.2.2.2.2.2.1.2.2
  replace hl : lv_has ls 3 [(0, .float x)] := hl
  obtain ⟨H, hH⟩ : ∃ H, H = s.heap := ⟨_, rfl⟩
  replace hP : va_P D vwCl [] H := by rw [hH]; exact hP
  replace hS : va_S A s.heap H [] := by rw [hH]; exact hS
  obtain ⟨locs, hlocs⟩ : ∃ z : List Loc, z = [] := ⟨_, rfl⟩
  rw [← hlocs] at hS
  suffices hW : W p l e ({ frames := 0, cells := 0, slots := 0, locals := 0 } : Room) s m args below meth c H locs 0 0 (MQ below ((xQi D (fun (r : Int32) (_u : Unit) => True) (fun (_u : Unit) => [])) A) args s 0 0 A) (F0 m 0 ls []) by rw [hlocs, hH] at hW; exact hW
  clear hH hlocs
  refine lv_fload_n hx hb dX11_bitsOf_0 rfl (lv_at hl 0 rfl) ?_
  refine lv_fconst0 hx hb dX11_bitsOf_1 ?_
  refine lv_fcmp hx hb dX11_bitsOf_2 ?_
  refine lv_if_gt (tgt := 8) hx hb dX11_bitsOf_3 (by decide) (fun c_1 => ?_) (fun c_1 => ?_)
  · -- 3 t
    refine lv_fload_n hx hb dX11_bitsOf_8 rfl (lv_at hl 0 rfl) ?_
    refine lv_fstore_n (lv' := [(1, .float x), (0, .float x)]) hx hb dX11_bitsOf_9 rfl hl (by decide) rfl ?_
    clear hl
    try clear ls
    intro ls hl
    refine lv_bipush (v := nI 127) hx hb dX11_bitsOf_10 (by decide) ?_
    refine lv_istore_n (lv' := [(2, .int (nI 127)), (1, .float x), (0, .float x)]) hx hb dX11_bitsOf_12 rfl hl (by decide) rfl ?_
    clear hl
    try clear ls
    intro ls hl
    have loop_2 : ∀ (n_loop_2 : Nat) (o : Nat) (m9 : UInt32), (vf_n32 m9) → (1 ≤ o ∧ o ≤ 127) → o < n_loop_2 → ∀ (H : Heap) (locs : List Loc) (ls : Array Slot), va_P D vwCl [] H → va_D A [] → va_S A s.heap H locs → lv_has ls 3 [(2, .int (nI o)), (1, .float m9), (0, .float x)] → W p l e ({ frames := 0, cells := 0, slots := 0, locals := 0 } : Room) s m args below meth c H locs 0 0 (MQ below ((xQi D (fun (r : Int32) (_u : Unit) => True) (fun (_u : Unit) => [])) A) args s 0 0 A) (F0 m 13 ls []) := by
      intro n_loop_2
      induction n_loop_2 with
      | zero => intro o m9 hm9 ho hlt H locs ls hP hD hS hl; exact absurd hlt (Nat.not_lt_zero _)
      | succ n_loop_2 ih_loop_2 =>
        intro o m9 hm9 ho hlt_loop_2 H locs ls hP hD hS hl
        refine lv_iload_n hx hb dX11_bitsOf_13 rfl (lv_at hl 0 rfl) ?_
        refine lv_iconst (v := nI 1) hx hb dX11_bitsOf_14 (by decide) ?_
        refine lv_icmp_le (tgt := 34) hx hb dX11_bitsOf_15 (by decide) (fun c_3 => ?_) (fun c_3 => ?_)
        · -- 15 t
          have fc_3 : o ≤ 1 := nf_le (by omega) (by omega) c_3
          refine lv_iload_n hx hb dX11_bitsOf_34 rfl (lv_at hl 0 rfl) ?_
          refine lv_bipush (v := nI 23) hx hb dX11_bitsOf_35 (by decide) ?_
          refine lv_ishl hx hb dX11_bitsOf_37 ?_
          refine lv_fload_n hx hb dX11_bitsOf_38 rfl (lv_at hl 1 rfl) ?_
          refine lv_fconst1 hx hb dX11_bitsOf_39 ?_
          refine lv_fsub hx hb dX11_bitsOf_40 (fl_sub hm9 (by decide +kernel)) ?_
          refine lv_ldcwf (v := 1258291200) hx hb hown (hz _ zw4_40) dX11_bitsOf_41 ?_
          refine lv_fmul hx hb dX11_bitsOf_44 (fl_mul (fl_sub hm9 (by decide +kernel)) (by decide +kernel) (by decide +kernel)) ?_
          refine lv_f2i hx hb dX11_bitsOf_45 ?_
          refine lv_ior hx hb dX11_bitsOf_46 ?_
          exact xreti C () trivial hP hD hS (Nat.le_of_ble_eq_true rfl) (Nat.le_of_ble_eq_true rfl) rfl dX11_bitsOf_47
        · -- 15 f
          have fc_3 : 1 < o := nf_nle (by omega) (by omega) c_3
          refine lv_fload_n hx hb dX11_bitsOf_18 rfl (lv_at hl 1 rfl) ?_
          refine lv_fconst1 hx hb dX11_bitsOf_19 ?_
          refine lv_fcmp hx hb dX11_bitsOf_20 ?_
          refine lv_if_ge (tgt := 34) hx hb dX11_bitsOf_21 (by decide) (fun c_4 => ?_) (fun c_4 => ?_)
          · -- 21 t
            refine lv_iload_n hx hb dX11_bitsOf_34 rfl (lv_at hl 0 rfl) ?_
            refine lv_bipush (v := nI 23) hx hb dX11_bitsOf_35 (by decide) ?_
            refine lv_ishl hx hb dX11_bitsOf_37 ?_
            refine lv_fload_n hx hb dX11_bitsOf_38 rfl (lv_at hl 1 rfl) ?_
            refine lv_fconst1 hx hb dX11_bitsOf_39 ?_
            refine lv_fsub hx hb dX11_bitsOf_40 (fl_sub hm9 (by decide +kernel)) ?_
            refine lv_ldcwf (v := 1258291200) hx hb hown (hz _ zw4_40) dX11_bitsOf_41 ?_
            refine lv_fmul hx hb dX11_bitsOf_44 (fl_mul (fl_sub hm9 (by decide +kernel)) (by decide +kernel) (by decide +kernel)) ?_
            refine lv_f2i hx hb dX11_bitsOf_45 ?_
            refine lv_ior hx hb dX11_bitsOf_46 ?_
            exact xreti C () trivial hP hD hS (Nat.le_of_ble_eq_true rfl) (Nat.le_of_ble_eq_true rfl) rfl dX11_bitsOf_47
          · -- 21 f
            refine lv_fload_n hx hb dX11_bitsOf_24 rfl (lv_at hl 1 rfl) ?_
            refine lv_fconst2 hx hb dX11_bitsOf_25 ?_
            refine lv_fmul hx hb dX11_bitsOf_26 (fl_mul hm9 (by decide +kernel) (by decide +kernel)) ?_
            refine lv_fstore_n (lv' := [(1, .float (FP.fmul m9 FP.fconst2)), (2, .int (nI o)), (0, .float x)]) hx hb dX11_bitsOf_27 rfl hl (by decide) rfl ?_
            clear hl
            try clear ls
            intro ls hl
            refine lv_iinc (v := nI (o - 1)) (lv' := [(2, .int (nI (o - 1))), (1, .float (FP.fmul m9 FP.fconst2)), (0, .float x)]) hx hb dX11_bitsOf_28 hl (k := 1) rfl (nI_dec (by omega)) (by decide) rfl ?_
            clear hl
            try clear ls
            intro ls hl
            refine lv_goto (tgt := 13) hx hb dX11_bitsOf_31 (by decide) ?_
            exact ih_loop_2 (o - 1) (FP.fmul m9 FP.fconst2) (fl_mul hm9 (by decide +kernel) (by decide +kernel)) (by omega) (by omega) H locs ls hP hD hS (lv_sub hl [0, 1, 2] rfl)
    exact loop_2 _ 127 x hnx (by decide) (Nat.lt_succ_self _) H locs ls hP hD hS (lv_sub hl [0, 1, 2] rfl)
  · -- 3 f
    refine lv_iconst (v := nI 0) hx hb dX11_bitsOf_6 (by decide) ?_
    exact xreti C () trivial hP hD hS (Nat.le_of_ble_eq_true rfl) (Nat.le_of_ble_eq_true rfl) rfl dX11_bitsOf_7
