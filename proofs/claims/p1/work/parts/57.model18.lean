theorem exV_n {x y : Int32} (h : ¬ (¬ x < nI 1 ∧ x ≤ nI 12)) : exV x y = -1 := by
  unfold exV
  refine if_pos (Classical.byContradiction fun z => h ⟨fun a => z (Or.inl a), Int32.not_lt.mp fun a => z (Or.inr (Or.inl a))⟩)
theorem exV_w {x y : Int32} (h : ¬ (¬ y < nI 0 ∧ y ≤ nI 2)) : exV x y = -1 := by
  unfold exV
  refine if_pos (Classical.byContradiction fun z => h ⟨fun a => z (Or.inr (Or.inr (Or.inl a))), Classical.byContradiction fun a => z (Or.inr (Or.inr (Or.inr a)))⟩)
theorem exV_t {t : Nat} {y : Int32} (ht : 1 ≤ t ∧ t ≤ 12) (h : ¬ y < nI 0 ∧ y ≤ nI 2) : exV (nI t) y = if y = 0 then lN (12 ^ t) else 0 := by
  unfold exV
  rw [if_neg (fun q => q.elim (told_n ht).1 (fun q => q.elim (told_n ht).2.1 (fun q => q.elim h.1 (fun q => q h.2)))), (told_n ht).2.2]
theorem coV_n {x y : Int32} (h : ¬ (¬ x < nI 1 ∧ x ≤ nI 12)) : coV x y = -1 := by
  unfold coV
  refine if_pos (Classical.byContradiction fun z => h ⟨fun a => z (Or.inl a), Int32.not_lt.mp fun a => z (Or.inr (Or.inl a))⟩)
theorem coV_w {x y : Int32} (h : ¬ (¬ y < nI 0 ∧ y ≤ nI 4)) : coV x y = -1 := by
  unfold coV
  refine if_pos (Classical.byContradiction fun z => h ⟨fun a => z (Or.inr (Or.inr (Or.inl a))), Classical.byContradiction fun a => z (Or.inr (Or.inr (Or.inr a)))⟩)
theorem coV_t {t : Nat} {y : Int32} (ht : 1 ≤ t ∧ t ≤ 12) (h : ¬ y < nI 0 ∧ y ≤ nI 4) : coV (nI t) y = if y = 0 then lN (12 ^ t) else 0 := by
  unfold coV
  rw [if_neg (fun q => q.elim (told_n ht).1 (fun q => q.elim (told_n ht).2.1 (fun q => q.elim h.1 (fun q => q h.2)))), (told_n ht).2.2]
theorem odV_n {x : Int32} (h : ¬ (¬ x < nI 1 ∧ x ≤ nI 12)) : odV x = -1 := by
  unfold odV
  refine if_pos (Classical.byContradiction fun z => h ⟨fun a => z (Or.inl a), Int32.not_lt.mp fun a => z (Or.inr a)⟩)
theorem odV_t {t : Nat} (ht : 1 ≤ t ∧ t ≤ 12) : odV (nI t) = 0 := by
  unfold odV
  exact if_neg (fun q => q.elim (told_n ht).1 (told_n ht).2.1)
theorem ways_cmp0 : ∀ t, t ≤ 12 → ¬ lg_cmp (lN (12 ^ t)) 0 < 0 := by decide

theorem xOfWF {l : Launch} {y : MethodName} {ws ws' : List Cond} {rm : Room} {Pc : Array Value → State → Prop} {Qc : Array Value → State → Outcome → State → Prop} {mc ms : Nat} {free : Addr → Prop} {cc : ByteArray} {maxL : Nat} {ret : Option FieldType}
    (hy : plainFor y = true) (hw : ws = Cond.code y cc maxL ret :: ws')
    (body : ∀ p e s m args below meth c s₁, BodyLoose p l y (headSpec ws rm) cc maxL ret e s m args below meth c s₁ → c.maxLocals = maxL → Pc args s →
      W p l e (headSpec ws rm).room s m args below meth c s.heap [] 0 0 (MQ below Qc args s mc ms free) (entryFrame m args maxL)) : Met l y ws rm Pc Qc mc ms free := by
  refine MetFree.of_bodySF (code := cc) (maxLocals := maxL) (ret := ret) hy ?_ ?_
  · intro args s m h hn
    obtain ⟨meth, c, h1, h2, h3, h4, h5, h6, -, -⟩ := Cond.code_spec hn (atoms_spec (ws := ws) h _ (by rw [hw]; exact List.mem_cons_self))
    exact ⟨meth, c, h1, h2, h3, h4, h5, h6⟩
  · intro p e s m args below meth c s₁ B hml hP _
    have hh0 : s₁.heap = s.heap := by rw [B.state]; rfl
    obtain ⟨t, a1, o, b1, b2, b3⟩ := body p e s m args below meth c s₁ B hml hP s₁ hh0 (Stand.of_body B)
    exact ⟨t, o, a1, b1, b2, ⟨b3.1, b3.2⟩⟩
theorem xMet.introF {l : Launch} {D : va_G} {cs : Nat → ClassId} {y : MethodName} {cc : ByteArray} {nL : Nat} {ret : Option FieldType} {rm : Room} {av : List Value} {w : va_W} {Qk : xQT} (hy : plainFor y = true) (hn : (lg_sl av).length ≤ nL)
    (body : ∀ (p : Program) (e : Env) (s : State) (m : MethodId) (args : Array Value) (below : List Frame) (meth : Method) (c : Code) (A : Nat → Prop) (ls : Array Slot), xC p rm s m args meth c y cc nL ret D cs A → va_P D vwCl w s.heap → va_D A w → va_S A s.heap s.heap [] → lv_has ls nL (lv_args 0 av) →
      W p l e rm s m args below meth c s.heap [] 0 0 (MQ below (Qk A) args s rm.cells rm.slots A) (F0 m 0 ls [])) : xMet l D cs y cc nL ret rm av w Qk := by
  intro sz
  refine xOfWF (cc := cc) (maxL := nL) (ret := ret) hy rfl ?_
  intro p e s m args below meth c s₁ B hml hv
  obtain ⟨rfl, hsz, hP, hK, hD0⟩ := hv
  have hts := atoms_spec (ws := xws y cc nL ret) B.pre
  have hown : s.vm.findClass y.cls = some m.cls := findClass_of_methodNamed B.named
  have hin : meth.name = y.name := (name_of_methodNamed B.named B.method).1
  subst hsz
  have hl := lv_entry av (n := nL) hn
  rw [lg_entry_eq]
  exact body p e s m av.toArray below meth c (va_A w s.heap.size) _ ⟨B.exec, B.bytes, hml, hown, fun w h => hts w (List.mem_cons_of_mem _ h), B.returns, B.notSynchronized, hin, hK, fun q h => Or.inr h⟩ hP hD0.self va_S.rf hl

set_option maxHeartbeats 4000000 in
set_option maxRecDepth 100000 in
theorem c_X12_counted_1 (l : Launch) (D : va_G) (cs : Nat → ClassId) (hm ms mkp mtr mas mso mon mot man mst msm mtb mti mfr mbn mbs mde maa mab mba mbb : Nat) (tf : Nat → Int32) (t : Nat) (ht1 : 1 ≤ t) (ht2 : t ≤ 12) : xMet l D cs yX12_counted cX12_counted 9 (some .long) ({ frames := 5, cells := 6, slots := 212482, locals := 114 } : Room) [.ref hm, .int (nI t), .int (nI 1), .int (nI 0)] [(hm, .inr (12, [.ref ms, .ref mkp, .int (nI 0), .ref mtr, .int (nI 4), .int (nI 2), .int (nI 2), .int (nI 3), .int (nI 2), .int (nI 1), .ref mas, .int (nI 0), .int (nI 0), .int (nI 0), .ref mso, .ref mon, .ref mot, .ref man, .int (nI 0), .int (nI 0), .ref mst, .ref msm, .ref mtb, .ref mti, .ref mfr, .ref mbn, .ref mbs, .ref mde, .int (nI 0), .int (nI 0), .int (nI 0), .int (nI 0), .long 0, .long 0, .ref maa, .ref mab, .ref mba, .ref mbb])), (ms, .inl (cs 0, 288, .inl freshS)), (mtr, .inl (cs 0, 288, .inl tf)), (msm, .inl (cs 0, 2, .inl (fun _ => 0))), (mst, .inl (cs 5, 2, .inr (.inr (.inr (.inr (fun _ => none)))))), (mtb, .inl (cs 5, 2, .inr (.inr (.inr (.inr (fun _ => none)))))), (mti, .inl (cs 6, 2, .inr (.inr (.inr (.inr (fun _ => none))))))] (xQl D (fun (r : Int64) (_u : Unit) => r = 0) (fun (_u : Unit) => [])) := by
  refine xMet.intro (by decide) (Nat.le_of_ble_eq_true rfl) ?_
  intro p e s m args below meth c A ls C hP hD hS hl
  have hx := C.1
  have hb := C.2.1
  have hz := C.2.2.2.2.1
  have hown := C.2.2.2.1
  have hA := C.2.2.2.2.2.2.2.2.2
  have hAO := C.2.2.2.2.2.2.2.2.1.2.2
  replace hl : lv_has ls 9 [(0, .ref hm), (1, .int (nI t)), (2, .int (nI 1)), (3, .int (nI 0))] := hl
  obtain ⟨H, hH⟩ : ∃ H, H = s.heap := ⟨_, rfl⟩
  replace hP : va_P D vwCl [(hm, .inr (12, [.ref ms, .ref mkp, .int (nI 0), .ref mtr, .int (nI 4), .int (nI 2), .int (nI 2), .int (nI 3), .int (nI 2), .int (nI 1), .ref mas, .int (nI 0), .int (nI 0), .int (nI 0), .ref mso, .ref mon, .ref mot, .ref man, .int (nI 0), .int (nI 0), .ref mst, .ref msm, .ref mtb, .ref mti, .ref mfr, .ref mbn, .ref mbs, .ref mde, .int (nI 0), .int (nI 0), .int (nI 0), .int (nI 0), .long 0, .long 0, .ref maa, .ref mab, .ref mba, .ref mbb])), (ms, .inl (cs 0, 288, .inl freshS)), (mtr, .inl (cs 0, 288, .inl tf)), (msm, .inl (cs 0, 2, .inl (fun _ => 0))), (mst, .inl (cs 5, 2, .inr (.inr (.inr (.inr (fun _ => none)))))), (mtb, .inl (cs 5, 2, .inr (.inr (.inr (.inr (fun _ => none)))))), (mti, .inl (cs 6, 2, .inr (.inr (.inr (.inr (fun _ => none))))))] H := by rw [hH]; exact hP
  replace hS : va_S A s.heap H [] := by rw [hH]; exact hS
  obtain ⟨locs, hlocs⟩ : ∃ z : List Loc, z = [] := ⟨_, rfl⟩
  rw [← hlocs] at hS
  suffices hW : W p l e ({ frames := 5, cells := 6, slots := 212482, locals := 114 } : Room) s m args below meth c H locs 0 0 (MQ below ((xQl D (fun (r : Int64) (_u : Unit) => r = 0) (fun (_u : Unit) => [])) A) args s 6 212482 A) (F0 m 0 ls []) by rw [hlocs, hH] at hW; exact hW
  clear hH hlocs
  refine lv_aload_n hx hb dX12_counted_0 rfl (lv_at hl 0 rfl) ?_
  refine lv_iload_n hx hb dX12_counted_1 rfl (lv_at hl 1 rfl) ?_
  refine xi (wr := []) (xV (As := [.int (nI t)]) (rest := []) C (c_X12_goes l D cs hm ms mkp mtr mas mso mon mot man mst msm mtb mti mfr mbn mbs mde maa mab mba mbb tf t ht1 ht2) kX12_206 hP hD [0, 1, 2, 3, 4, 5, 6] rfl (by decide +kernel) 0 rfl rfl rfl ⟨Nat.le_of_ble_eq_true rfl, Nat.le_of_ble_eq_true rfl⟩ rfl hl.1 rfl (Nat.le_of_ble_eq_true rfl) dX12_counted_2 ⟨Nat.le_of_ble_eq_true rfl, Nat.le_of_ble_eq_true rfl⟩) hP hD hS hA [0, 1, 2, 3, 4, 5, 6] [] rfl rfl (by decide +kernel) (by decide +kernel) ?_
  clear hP hD hS
  try clear locs
  try clear H
  intro r_1 u_2 H locs hw_r_1 hP hD hS
  obtain ⟨st0_3, st1_4, tb0_5, tb1_6, ti0_7, ti1_8, q0_9, q1_10, tc0_11, tc1_12, u0_13, u1_14⟩ := u_2
  have hw_r_1 : (r_1 = nI 0 ∧ (∀ j, j < 48 → q0_9 j = freshS j) ∧ u0_13 0 = lN (12 ^ t)) ∨ (r_1 = nI 1 ∧ (∀ j, j < 48 → q1_10 j = freshS j) ∧ u1_14 0 = lN (12 ^ t)) := hw_r_1
  refine W.widen (k := 6) (n := 212482) (Nat.le_of_ble_eq_true rfl) (Nat.le_of_ble_eq_true rfl) ?_
  replace hP : va_P D vwCl [(hm, .inr (12, [.ref ms, .ref mkp, .int (nI 0), .ref mtr, .int (nI 4), .int (nI 2), .int (nI 2), .int (nI 3), .int (nI 2), .int (nI 1), .ref mas, .int (nI 0), .int (nI 0), .int (nI 0), .ref mso, .ref mon, .ref mot, .ref man, .int (nI 0), .int (nI 0), .ref mst, .ref msm, .ref mtb, .ref mti, .ref mfr, .ref mbn, .ref mbs, .ref mde, .int (nI 0), .int (nI 0), .int (nI 0), .int (nI 0), .long 0, .long 0, .ref maa, .ref mab, .ref mba, .ref mbb])), (ms, .inl (cs 0, 288, .inl freshS)), (mtr, .inl (cs 0, 288, .inl freshS)), (msm, .inl (cs 0, 2, .inl (smF2 (nI 1) (nI 1)))), (mst, .inl (cs 5, 2, .inr (.inr (.inr (.inr (va_up (va_up (fun _ => none) 0 (some st0_3)) 1 (some st1_4))))))), (mtb, .inl (cs 5, 2, .inr (.inr (.inr (.inr (va_up (va_up (fun _ => none) 0 (some tb0_5)) 1 (some tb1_6))))))), (mti, .inl (cs 6, 2, .inr (.inr (.inr (.inr (va_up (va_up (fun _ => none) 0 (some ti0_7)) 1 (some ti1_8))))))), (st0_3, .inl (cs 0, 96048, .inl q0_9)), (st1_4, .inl (cs 0, 96048, .inl q1_10)), (tb0_5, .inl (cs 0, 8192, .inl tc0_11)), (tb1_6, .inl (cs 0, 8192, .inl tc1_12)), (ti0_7, .inl (cs 1, 2001, .inr (.inl u0_13))), (ti1_8, .inl (cs 1, 2001, .inr (.inl u1_14)))] H := hP
  replace hD : va_D A [(hm, .inr (12, [.ref ms, .ref mkp, .int (nI 0), .ref mtr, .int (nI 4), .int (nI 2), .int (nI 2), .int (nI 3), .int (nI 2), .int (nI 1), .ref mas, .int (nI 0), .int (nI 0), .int (nI 0), .ref mso, .ref mon, .ref mot, .ref man, .int (nI 0), .int (nI 0), .ref mst, .ref msm, .ref mtb, .ref mti, .ref mfr, .ref mbn, .ref mbs, .ref mde, .int (nI 0), .int (nI 0), .int (nI 0), .int (nI 0), .long 0, .long 0, .ref maa, .ref mab, .ref mba, .ref mbb])), (ms, .inl (cs 0, 288, .inl freshS)), (mtr, .inl (cs 0, 288, .inl freshS)), (msm, .inl (cs 0, 2, .inl (smF2 (nI 1) (nI 1)))), (mst, .inl (cs 5, 2, .inr (.inr (.inr (.inr (va_up (va_up (fun _ => none) 0 (some st0_3)) 1 (some st1_4))))))), (mtb, .inl (cs 5, 2, .inr (.inr (.inr (.inr (va_up (va_up (fun _ => none) 0 (some tb0_5)) 1 (some tb1_6))))))), (mti, .inl (cs 6, 2, .inr (.inr (.inr (.inr (va_up (va_up (fun _ => none) 0 (some ti0_7)) 1 (some ti1_8))))))), (st0_3, .inl (cs 0, 96048, .inl q0_9)), (st1_4, .inl (cs 0, 96048, .inl q1_10)), (tb0_5, .inl (cs 0, 8192, .inl tc0_11)), (tb1_6, .inl (cs 0, 8192, .inl tc1_12)), (ti0_7, .inl (cs 1, 2001, .inr (.inl u0_13))), (ti1_8, .inl (cs 1, 2001, .inr (.inl u1_14)))] := hD
  rcases hw_r_1 with ⟨rfl, hq, hu⟩ | ⟨rfl, hq, hu⟩
  · -- split
    replace hP : va_P D vwCl [(hm, .inr (12, [.ref ms, .ref mkp, .int (nI 0), .ref mtr, .int (nI 4), .int (nI 2), .int (nI 2), .int (nI 3), .int (nI 2), .int (nI 1), .ref mas, .int (nI 0), .int (nI 0), .int (nI 0), .ref mso, .ref mon, .ref mot, .ref man, .int (nI 0), .int (nI 0), .ref mst, .ref msm, .ref mtb, .ref mti, .ref mfr, .ref mbn, .ref mbs, .ref mde, .int (nI 0), .int (nI 0), .int (nI 0), .int (nI 0), .long 0, .long 0, .ref maa, .ref mab, .ref mba, .ref mbb])), (ms, .inl (cs 0, 288, .inl freshS)), (mtr, .inl (cs 0, 288, .inl freshS)), (msm, .inl (cs 0, 2, .inl (smF2 (nI 1) (nI 1)))), (mst, .inl (cs 5, 2, .inr (.inr (.inr (.inr (va_up (va_up (fun _ => none) 0 (some st0_3)) 1 (some st1_4))))))), (mtb, .inl (cs 5, 2, .inr (.inr (.inr (.inr (va_up (va_up (fun _ => none) 0 (some tb0_5)) 1 (some tb1_6))))))), (mti, .inl (cs 6, 2, .inr (.inr (.inr (.inr (va_up (va_up (fun _ => none) 0 (some ti0_7)) 1 (some ti1_8))))))), (st0_3, .inl (cs 0, 96048, .inl q0_9)), (st1_4, .inl (cs 0, 96048, .inl q1_10)), (tb0_5, .inl (cs 0, 8192, .inl tc0_11)), (tb1_6, .inl (cs 0, 8192, .inl tc1_12)), (ti0_7, .inl (cs 1, 2001, .inr (.inl u0_13))), (ti1_8, .inl (cs 1, 2001, .inr (.inl u1_14)))] H := hP
    replace hD : va_D A [(hm, .inr (12, [.ref ms, .ref mkp, .int (nI 0), .ref mtr, .int (nI 4), .int (nI 2), .int (nI 2), .int (nI 3), .int (nI 2), .int (nI 1), .ref mas, .int (nI 0), .int (nI 0), .int (nI 0), .ref mso, .ref mon, .ref mot, .ref man, .int (nI 0), .int (nI 0), .ref mst, .ref msm, .ref mtb, .ref mti, .ref mfr, .ref mbn, .ref mbs, .ref mde, .int (nI 0), .int (nI 0), .int (nI 0), .int (nI 0), .long 0, .long 0, .ref maa, .ref mab, .ref mba, .ref mbb])), (ms, .inl (cs 0, 288, .inl freshS)), (mtr, .inl (cs 0, 288, .inl freshS)), (msm, .inl (cs 0, 2, .inl (smF2 (nI 1) (nI 1)))), (mst, .inl (cs 5, 2, .inr (.inr (.inr (.inr (va_up (va_up (fun _ => none) 0 (some st0_3)) 1 (some st1_4))))))), (mtb, .inl (cs 5, 2, .inr (.inr (.inr (.inr (va_up (va_up (fun _ => none) 0 (some tb0_5)) 1 (some tb1_6))))))), (mti, .inl (cs 6, 2, .inr (.inr (.inr (.inr (va_up (va_up (fun _ => none) 0 (some ti0_7)) 1 (some ti1_8))))))), (st0_3, .inl (cs 0, 96048, .inl q0_9)), (st1_4, .inl (cs 0, 96048, .inl q1_10)), (tb0_5, .inl (cs 0, 8192, .inl tc0_11)), (tb1_6, .inl (cs 0, 8192, .inl tc1_12)), (ti0_7, .inl (cs 1, 2001, .inr (.inl u0_13))), (ti1_8, .inl (cs 1, 2001, .inr (.inl u1_14)))] := hD
    refine lv_istore (lv' := [(4, .int (nI 0)), (0, .ref hm), (1, .int (nI t)), (2, .int (nI 1)), (3, .int (nI 0))]) hx hb dX12_counted_5 hl (by decide) rfl ?_
    clear hl
    try clear ls
    intro ls hl
    refine lv_iload hx hb dX12_counted_7 (lv_at hl 0 rfl) ?_
    refine lv_if_ge (tgt := 16) hx hb dX12_counted_9 (by decide) (fun _ => ?_) (fun c => absurd (by decide) c)
    refine lv_aload_n hx hb dX12_counted_16 rfl (lv_at hl 1 rfl) ?_
    refine lv_aload_n hx hb dX12_counted_17 rfl (lv_at hl 1 rfl) ?_
    refine xget C hP 0 rfl rfl zuX12 0 (by decide) zw5_213 rfl dX12_counted_18 ?_
    refine lv_aload_n hx hb dX12_counted_21 rfl (lv_at hl 1 rfl) ?_
    refine xget C hP 0 rfl rfl zuX12 3 (by decide) zw5_216 rfl dX12_counted_22 ?_
    refine xv (wr := [(msm, .inl (cs 0, 2, .inl (smF2 (nI 1) (nI 1)))), (mst, .inl (cs 5, 2, .inr (.inr (.inr (.inr (va_up (va_up (fun _ => none) 0 (some st0_3)) 1 (some st1_4))))))), (mtb, .inl (cs 5, 2, .inr (.inr (.inr (.inr (va_up (va_up (fun _ => none) 0 (some tb0_5)) 1 (some tb1_6))))))), (mti, .inl (cs 6, 2, .inr (.inr (.inr (.inr (va_up (va_up (fun _ => none) 0 (some ti0_7)) 1 (some ti1_8))))))), (st0_3, .inl (cs 0, 96048, .inl q0_9)), (st1_4, .inl (cs 0, 96048, .inl q1_10)), (tb0_5, .inl (cs 0, 8192, .inl tc0_11)), (tb1_6, .inl (cs 0, 8192, .inl tc1_12)), (ti0_7, .inl (cs 1, 2001, .inr (.inl u0_13))), (ti1_8, .inl (cs 1, 2001, .inr (.inl u1_14)))]) (xV (As := [.ref ms, .ref mtr]) (rest := []) C (c_X12_puts_m l D cs hm ms mkp mtr mas mso mon mot man mst msm mtb mti mfr mbn mbs mde maa mab mba mbb ms mtr freshS freshS) kX12_148 hP hD [0, 1, 2] rfl (by decide +kernel) 0 rfl rfl rfl ⟨Nat.le_of_ble_eq_true rfl, Nat.le_of_ble_eq_true rfl⟩ rfl hl.1 rfl (Nat.le_of_ble_eq_true rfl) dX12_counted_25 ⟨Nat.le_of_ble_eq_true rfl, Nat.le_of_ble_eq_true rfl⟩) hP hD hS hA [0, 1, 2] [3, 4, 5, 6, 7, 8, 9, 10, 11, 12] rfl rfl (by decide +kernel) (by decide +kernel) ?_
    clear hP hD hS
    try clear locs
    try clear H
    intro u_16 H locs hw_r_15 hP hD hS
    refine W.widen (k := 6) (n := 212482) (Nat.le_of_ble_eq_true rfl) (Nat.le_of_ble_eq_true rfl) ?_
    replace hP : va_P D vwCl [(msm, .inl (cs 0, 2, .inl (smF2 (nI 1) (nI 1)))), (mst, .inl (cs 5, 2, .inr (.inr (.inr (.inr (va_up (va_up (fun _ => none) 0 (some st0_3)) 1 (some st1_4))))))), (mtb, .inl (cs 5, 2, .inr (.inr (.inr (.inr (va_up (va_up (fun _ => none) 0 (some tb0_5)) 1 (some tb1_6))))))), (mti, .inl (cs 6, 2, .inr (.inr (.inr (.inr (va_up (va_up (fun _ => none) 0 (some ti0_7)) 1 (some ti1_8))))))), (st0_3, .inl (cs 0, 96048, .inl q0_9)), (st1_4, .inl (cs 0, 96048, .inl q1_10)), (tb0_5, .inl (cs 0, 8192, .inl tc0_11)), (tb1_6, .inl (cs 0, 8192, .inl tc1_12)), (ti0_7, .inl (cs 1, 2001, .inr (.inl u0_13))), (ti1_8, .inl (cs 1, 2001, .inr (.inl u1_14))), (hm, .inr (12, [.ref ms, .ref mkp, .int (nI 0), .ref mtr, .int (nI 4), .int (nI 2), .int (nI 2), .int (nI 3), .int (nI 2), .int (nI 1), .ref mas, .int (nI 0), .int (nI 0), .int (nI 0), .ref mso, .ref mon, .ref mot, .ref man, .int (nI 0), .int (nI 0), .ref mst, .ref msm, .ref mtb, .ref mti, .ref mfr, .ref mbn, .ref mbs, .ref mde, .int (nI 0), .int (nI 0), .int (nI 0), .int (nI 0), .long 0, .long 0, .ref maa, .ref mab, .ref mba, .ref mbb])), (ms, .inl (cs 0, 288, .inl freshS)), (mtr, .inl (cs 0, 288, .inl freshS))] H := hP
    replace hD : va_D A [(msm, .inl (cs 0, 2, .inl (smF2 (nI 1) (nI 1)))), (mst, .inl (cs 5, 2, .inr (.inr (.inr (.inr (va_up (va_up (fun _ => none) 0 (some st0_3)) 1 (some st1_4))))))), (mtb, .inl (cs 5, 2, .inr (.inr (.inr (.inr (va_up (va_up (fun _ => none) 0 (some tb0_5)) 1 (some tb1_6))))))), (mti, .inl (cs 6, 2, .inr (.inr (.inr (.inr (va_up (va_up (fun _ => none) 0 (some ti0_7)) 1 (some ti1_8))))))), (st0_3, .inl (cs 0, 96048, .inl q0_9)), (st1_4, .inl (cs 0, 96048, .inl q1_10)), (tb0_5, .inl (cs 0, 8192, .inl tc0_11)), (tb1_6, .inl (cs 0, 8192, .inl tc1_12)), (ti0_7, .inl (cs 1, 2001, .inr (.inl u0_13))), (ti1_8, .inl (cs 1, 2001, .inr (.inl u1_14))), (hm, .inr (12, [.ref ms, .ref mkp, .int (nI 0), .ref mtr, .int (nI 4), .int (nI 2), .int (nI 2), .int (nI 3), .int (nI 2), .int (nI 1), .ref mas, .int (nI 0), .int (nI 0), .int (nI 0), .ref mso, .ref mon, .ref mot, .ref man, .int (nI 0), .int (nI 0), .ref mst, .ref msm, .ref mtb, .ref mti, .ref mfr, .ref mbn, .ref mbs, .ref mde, .int (nI 0), .int (nI 0), .int (nI 0), .int (nI 0), .long 0, .long 0, .ref maa, .ref mab, .ref mba, .ref mbb])), (ms, .inl (cs 0, 288, .inl freshS)), (mtr, .inl (cs 0, 288, .inl freshS))] := hD
    refine lv_lconst (v := 0) hx hb dX12_counted_28 (by decide) ?_
    refine lv_lstore (lv' := [(5, .long 0), (4, .int (nI 0)), (0, .ref hm), (1, .int (nI t)), (2, .int (nI 1)), (3, .int (nI 0))]) hx hb dX12_counted_29 hl (by decide) rfl ?_
    clear hl
    try clear ls
    intro ls hl
    refine lv_iconst (v := nI 0) hx hb dX12_counted_31 (by decide) ?_
    refine lv_istore (lv' := [(7, .int (nI 0)), (5, .long 0), (4, .int (nI 0)), (0, .ref hm), (1, .int (nI t)), (2, .int (nI 1)), (3, .int (nI 0))]) hx hb dX12_counted_32 hl (by decide) rfl ?_
    clear hl
    try clear ls
    intro ls hl
    refine lv_iload hx hb dX12_counted_34 (lv_at hl 0 rfl) ?_
    refine lv_aload_n hx hb dX12_counted_36 rfl (lv_at hl 3 rfl) ?_
    refine xget C hP 10 rfl rfl zuX12 21 (by decide) zw5_234 rfl dX12_counted_37 ?_
    refine lv_iload hx hb dX12_counted_40 (lv_at hl 2 rfl) ?_
    refine xiald C hP 0 rfl 0 rfl (by decide) (by decide) dX12_counted_42 ?_
    refine lv_topi (nm_r (e' := nI 1) (by decide) ?_)
    refine lv_icmp_ge (tgt := 122) hx hb dX12_counted_43 (by decide) (fun c => absurd c (by decide)) (fun _ => ?_)
    refine lv_aload_n hx hb dX12_counted_46 rfl (lv_at hl 3 rfl) ?_
    refine lv_iload hx hb dX12_counted_47 (lv_at hl 2 rfl) ?_
    refine lv_iload hx hb dX12_counted_49 (lv_at hl 0 rfl) ?_
    refine xv (wr := [(msm, .inl (cs 0, 2, .inl (smF2 (nI 1) (nI 1)))), (mtb, .inl (cs 5, 2, .inr (.inr (.inr (.inr (va_up (va_up (fun _ => none) 0 (some tb0_5)) 1 (some tb1_6))))))), (mti, .inl (cs 6, 2, .inr (.inr (.inr (.inr (va_up (va_up (fun _ => none) 0 (some ti0_7)) 1 (some ti1_8))))))), (st1_4, .inl (cs 0, 96048, .inl q1_10)), (tb0_5, .inl (cs 0, 8192, .inl tc0_11)), (tb1_6, .inl (cs 0, 8192, .inl tc1_12)), (ti0_7, .inl (cs 1, 2001, .inr (.inl u0_13))), (ti1_8, .inl (cs 1, 2001, .inr (.inl u1_14))), (mtr, .inl (cs 0, 288, .inl freshS))]) (xV (As := [.int (nI 0), .int (nI 0)]) (rest := []) C (c_X12_brings_0 l D cs hm ms mkp mtr mas mso mon mot man mst msm mtb mti mfr mbn mbs mde maa mab mba mbb st0_3 (va_up (va_up (fun _ => none) 0 (some st0_3)) 1 (some st1_4)) q0_9 rfl hq) kX12_203 hP hD [10, 11, 1, 4] rfl (by decide +kernel) 0 rfl rfl rfl ⟨Nat.le_of_ble_eq_true rfl, Nat.le_of_ble_eq_true rfl⟩ rfl hl.1 rfl (Nat.le_of_ble_eq_true rfl) dX12_counted_51 ⟨Nat.le_of_ble_eq_true rfl, Nat.le_of_ble_eq_true rfl⟩) hP hD hS hA [10, 11, 1, 4] [0, 2, 3, 5, 6, 7, 8, 9, 12] rfl rfl (by decide +kernel) (by decide +kernel) ?_
    clear hP hD hS
    try clear locs
    try clear H
    intro u_18 H locs hw_r_17 hP hD hS
    refine W.widen (k := 6) (n := 212482) (Nat.le_of_ble_eq_true rfl) (Nat.le_of_ble_eq_true rfl) ?_
    replace hP : va_P D vwCl [(msm, .inl (cs 0, 2, .inl (smF2 (nI 1) (nI 1)))), (mtb, .inl (cs 5, 2, .inr (.inr (.inr (.inr (va_up (va_up (fun _ => none) 0 (some tb0_5)) 1 (some tb1_6))))))), (mti, .inl (cs 6, 2, .inr (.inr (.inr (.inr (va_up (va_up (fun _ => none) 0 (some ti0_7)) 1 (some ti1_8))))))), (st1_4, .inl (cs 0, 96048, .inl q1_10)), (tb0_5, .inl (cs 0, 8192, .inl tc0_11)), (tb1_6, .inl (cs 0, 8192, .inl tc1_12)), (ti0_7, .inl (cs 1, 2001, .inr (.inl u0_13))), (ti1_8, .inl (cs 1, 2001, .inr (.inl u1_14))), (mtr, .inl (cs 0, 288, .inl freshS)), (hm, .inr (12, [.ref ms, .ref mkp, .int (nI 0), .ref mtr, .int (nI 4), .int (nI 2), .int (nI 2), .int (nI 3), .int (nI 2), .int (nI 1), .ref mas, .int (nI 0), .int (nI 0), .int (nI 0), .ref mso, .ref mon, .ref mot, .ref man, .int (nI 0), .int (nI 0), .ref mst, .ref msm, .ref mtb, .ref mti, .ref mfr, .ref mbn, .ref mbs, .ref mde, .int (nI 0), .int (nI 0), .int (nI 0), .int (nI 0), .long 0, .long 0, .ref maa, .ref mab, .ref mba, .ref mbb])), (ms, .inl (cs 0, 288, .inl freshS)), (mst, .inl (cs 5, 2, .inr (.inr (.inr (.inr (va_up (va_up (fun _ => none) 0 (some st0_3)) 1 (some st1_4))))))), (st0_3, .inl (cs 0, 96048, .inl q0_9))] H := hP
    replace hD : va_D A [(msm, .inl (cs 0, 2, .inl (smF2 (nI 1) (nI 1)))), (mtb, .inl (cs 5, 2, .inr (.inr (.inr (.inr (va_up (va_up (fun _ => none) 0 (some tb0_5)) 1 (some tb1_6))))))), (mti, .inl (cs 6, 2, .inr (.inr (.inr (.inr (va_up (va_up (fun _ => none) 0 (some ti0_7)) 1 (some ti1_8))))))), (st1_4, .inl (cs 0, 96048, .inl q1_10)), (tb0_5, .inl (cs 0, 8192, .inl tc0_11)), (tb1_6, .inl (cs 0, 8192, .inl tc1_12)), (ti0_7, .inl (cs 1, 2001, .inr (.inl u0_13))), (ti1_8, .inl (cs 1, 2001, .inr (.inl u1_14))), (mtr, .inl (cs 0, 288, .inl freshS)), (hm, .inr (12, [.ref ms, .ref mkp, .int (nI 0), .ref mtr, .int (nI 4), .int (nI 2), .int (nI 2), .int (nI 3), .int (nI 2), .int (nI 1), .ref mas, .int (nI 0), .int (nI 0), .int (nI 0), .ref mso, .ref mon, .ref mot, .ref man, .int (nI 0), .int (nI 0), .ref mst, .ref msm, .ref mtb, .ref mti, .ref mfr, .ref mbn, .ref mbs, .ref mde, .int (nI 0), .int (nI 0), .int (nI 0), .int (nI 0), .long 0, .long 0, .ref maa, .ref mab, .ref mba, .ref mbb])), (ms, .inl (cs 0, 288, .inl freshS)), (mst, .inl (cs 5, 2, .inr (.inr (.inr (.inr (va_up (va_up (fun _ => none) 0 (some st0_3)) 1 (some st1_4))))))), (st0_3, .inl (cs 0, 96048, .inl q0_9))] := hD
    refine lv_iload_n hx hb dX12_counted_54 rfl (lv_at hl 5 rfl) ?_
    refine lv_iconst (v := nI 1) hx hb dX12_counted_55 (by decide) ?_
    refine lv_icmp_ne (tgt := 66) hx hb dX12_counted_56 (by decide) (fun c => absurd (by decide) c) (fun _ => ?_)
    refine lv_aload_n hx hb dX12_counted_59 rfl (lv_at hl 3 rfl) ?_
    refine xi (wr := [(msm, .inl (cs 0, 2, .inl (smF2 (nI 1) (nI 1)))), (mtb, .inl (cs 5, 2, .inr (.inr (.inr (.inr (va_up (va_up (fun _ => none) 0 (some tb0_5)) 1 (some tb1_6))))))), (mti, .inl (cs 6, 2, .inr (.inr (.inr (.inr (va_up (va_up (fun _ => none) 0 (some ti0_7)) 1 (some ti1_8))))))), (st1_4, .inl (cs 0, 96048, .inl q1_10)), (tb0_5, .inl (cs 0, 8192, .inl tc0_11)), (tb1_6, .inl (cs 0, 8192, .inl tc1_12)), (ti0_7, .inl (cs 1, 2001, .inr (.inl u0_13))), (ti1_8, .inl (cs 1, 2001, .inr (.inl u1_14))), (mtr, .inl (cs 0, 288, .inl freshS)), (mst, .inl (cs 5, 2, .inr (.inr (.inr (.inr (va_up (va_up (fun _ => none) 0 (some st0_3)) 1 (some st1_4))))))), (st0_3, .inl (cs 0, 96048, .inl q0_9))]) (xV (As := []) (rest := []) C (c_X12_areSplit_z l D cs hm ms mkp mtr mas mso mon mot man mst msm mtb mti mfr mbn mbs mde maa mab mba mbb) kX12_211 hP hD [9, 10] rfl (by decide +kernel) 0 rfl rfl rfl ⟨Nat.le_of_ble_eq_true rfl, Nat.le_of_ble_eq_true rfl⟩ rfl hl.1 rfl (Nat.le_of_ble_eq_true rfl) dX12_counted_60 ⟨Nat.le_of_ble_eq_true rfl, Nat.le_of_ble_eq_true rfl⟩) hP hD hS hA [9, 10] [0, 1, 2, 3, 4, 5, 6, 7, 8, 11, 12] rfl rfl (by decide +kernel) (by decide +kernel) ?_
    clear hP hD hS
    try clear locs
    try clear H
    intro r_19 u_20 H locs hw_r_19 hP hD hS
    have hw_r_19 : r_19 = nI 0 := hw_r_19
    refine W.widen (k := 6) (n := 212482) (Nat.le_of_ble_eq_true rfl) (Nat.le_of_ble_eq_true rfl) ?_
    replace hP : va_P D vwCl [(msm, .inl (cs 0, 2, .inl (smF2 (nI 1) (nI 1)))), (mtb, .inl (cs 5, 2, .inr (.inr (.inr (.inr (va_up (va_up (fun _ => none) 0 (some tb0_5)) 1 (some tb1_6))))))), (mti, .inl (cs 6, 2, .inr (.inr (.inr (.inr (va_up (va_up (fun _ => none) 0 (some ti0_7)) 1 (some ti1_8))))))), (st1_4, .inl (cs 0, 96048, .inl q1_10)), (tb0_5, .inl (cs 0, 8192, .inl tc0_11)), (tb1_6, .inl (cs 0, 8192, .inl tc1_12)), (ti0_7, .inl (cs 1, 2001, .inr (.inl u0_13))), (ti1_8, .inl (cs 1, 2001, .inr (.inl u1_14))), (mtr, .inl (cs 0, 288, .inl freshS)), (mst, .inl (cs 5, 2, .inr (.inr (.inr (.inr (va_up (va_up (fun _ => none) 0 (some st0_3)) 1 (some st1_4))))))), (st0_3, .inl (cs 0, 96048, .inl q0_9)), (hm, .inr (12, [.ref ms, .ref mkp, .int (nI 0), .ref mtr, .int (nI 4), .int (nI 2), .int (nI 2), .int (nI 3), .int (nI 2), .int (nI 1), .ref mas, .int (nI 0), .int (nI 0), .int (nI 0), .ref mso, .ref mon, .ref mot, .ref man, .int (nI 0), .int (nI 0), .ref mst, .ref msm, .ref mtb, .ref mti, .ref mfr, .ref mbn, .ref mbs, .ref mde, .int (nI 0), .int (nI 0), .int (nI 0), .int (nI 0), .long 0, .long 0, .ref maa, .ref mab, .ref mba, .ref mbb])), (ms, .inl (cs 0, 288, .inl freshS))] H := hP
    replace hD : va_D A [(msm, .inl (cs 0, 2, .inl (smF2 (nI 1) (nI 1)))), (mtb, .inl (cs 5, 2, .inr (.inr (.inr (.inr (va_up (va_up (fun _ => none) 0 (some tb0_5)) 1 (some tb1_6))))))), (mti, .inl (cs 6, 2, .inr (.inr (.inr (.inr (va_up (va_up (fun _ => none) 0 (some ti0_7)) 1 (some ti1_8))))))), (st1_4, .inl (cs 0, 96048, .inl q1_10)), (tb0_5, .inl (cs 0, 8192, .inl tc0_11)), (tb1_6, .inl (cs 0, 8192, .inl tc1_12)), (ti0_7, .inl (cs 1, 2001, .inr (.inl u0_13))), (ti1_8, .inl (cs 1, 2001, .inr (.inl u1_14))), (mtr, .inl (cs 0, 288, .inl freshS)), (mst, .inl (cs 5, 2, .inr (.inr (.inr (.inr (va_up (va_up (fun _ => none) 0 (some st0_3)) 1 (some st1_4))))))), (st0_3, .inl (cs 0, 96048, .inl q0_9)), (hm, .inr (12, [.ref ms, .ref mkp, .int (nI 0), .ref mtr, .int (nI 4), .int (nI 2), .int (nI 2), .int (nI 3), .int (nI 2), .int (nI 1), .ref mas, .int (nI 0), .int (nI 0), .int (nI 0), .ref mso, .ref mon, .ref mot, .ref man, .int (nI 0), .int (nI 0), .ref mst, .ref msm, .ref mtb, .ref mti, .ref mfr, .ref mbn, .ref mbs, .ref mde, .int (nI 0), .int (nI 0), .int (nI 0), .int (nI 0), .long 0, .long 0, .ref maa, .ref mab, .ref mba, .ref mbb])), (ms, .inl (cs 0, 288, .inl freshS))] := hD
    subst hw_r_19
    refine lv_goto (tgt := 94) hx hb dX12_counted_63 (by decide) ?_
    refine lv_istore (lv' := [(8, .int (nI 0)), (7, .int (nI 0)), (5, .long 0), (4, .int (nI 0)), (0, .ref hm), (1, .int (nI t)), (2, .int (nI 1)), (3, .int (nI 0))]) hx hb dX12_counted_94 hl (by decide) rfl ?_
    clear hl
    try clear ls
    intro ls hl
    refine lv_iload hx hb dX12_counted_96 (lv_at hl 0 rfl) ?_
    refine lv_if_eq (tgt := 116) hx hb dX12_counted_98 (by decide) (fun _ => ?_) (fun c => absurd (by decide) c)
    refine lv_iinc (v := nI 1) (lv' := [(7, .int (nI 1)), (8, .int (nI 0)), (5, .long 0), (4, .int (nI 0)), (0, .ref hm), (1, .int (nI t)), (2, .int (nI 1)), (3, .int (nI 0))]) hx hb dX12_counted_116 hl (k := 1) rfl (by decide) (by decide) rfl ?_
    clear hl
    try clear ls
    intro ls hl
    refine lv_goto (tgt := 34) hx hb dX12_counted_119 (by decide) ?_
    refine lv_iload hx hb dX12_counted_34 (lv_at hl 0 rfl) ?_
    refine lv_aload_n hx hb dX12_counted_36 rfl (lv_at hl 4 rfl) ?_
    refine xget C hP 11 rfl rfl zuX12 21 (by decide) zw5_234 rfl dX12_counted_37 ?_
    refine lv_iload hx hb dX12_counted_40 (lv_at hl 3 rfl) ?_
    refine xiald C hP 0 rfl 0 rfl (by decide) (by decide) dX12_counted_42 ?_
    refine lv_topi (nm_r (e' := nI 1) (by decide) ?_)
    refine lv_icmp_ge (tgt := 122) hx hb dX12_counted_43 (by decide) (fun _ => ?_) (fun c => absurd (by decide) c)
    refine lv_aload_n hx hb dX12_counted_122 rfl (lv_at hl 4 rfl) ?_
    refine lv_aload_n hx hb dX12_counted_123 rfl (lv_at hl 4 rfl) ?_
    refine xget C hP 11 rfl rfl zuX12 3 (by decide) zw5_216 rfl dX12_counted_124 ?_
    refine lv_aload_n hx hb dX12_counted_127 rfl (lv_at hl 4 rfl) ?_
    refine xget C hP 11 rfl rfl zuX12 0 (by decide) zw5_213 rfl dX12_counted_128 ?_
    refine xv (wr := [(msm, .inl (cs 0, 2, .inl (smF2 (nI 1) (nI 1)))), (mtb, .inl (cs 5, 2, .inr (.inr (.inr (.inr (va_up (va_up (fun _ => none) 0 (some tb0_5)) 1 (some tb1_6))))))), (mti, .inl (cs 6, 2, .inr (.inr (.inr (.inr (va_up (va_up (fun _ => none) 0 (some ti0_7)) 1 (some ti1_8))))))), (st1_4, .inl (cs 0, 96048, .inl q1_10)), (tb0_5, .inl (cs 0, 8192, .inl tc0_11)), (tb1_6, .inl (cs 0, 8192, .inl tc1_12)), (ti0_7, .inl (cs 1, 2001, .inr (.inl u0_13))), (ti1_8, .inl (cs 1, 2001, .inr (.inl u1_14))), (mst, .inl (cs 5, 2, .inr (.inr (.inr (.inr (va_up (va_up (fun _ => none) 0 (some st0_3)) 1 (some st1_4))))))), (st0_3, .inl (cs 0, 96048, .inl q0_9))]) (xV (As := [.ref mtr, .ref ms]) (rest := []) C (c_X12_puts_m l D cs hm ms mkp mtr mas mso mon mot man mst msm mtb mti mfr mbn mbs mde maa mab mba mbb mtr ms freshS freshS) kX12_148 hP hD [11, 8, 12] rfl (by decide +kernel) 0 rfl rfl rfl ⟨Nat.le_of_ble_eq_true rfl, Nat.le_of_ble_eq_true rfl⟩ rfl hl.1 rfl (Nat.le_of_ble_eq_true rfl) dX12_counted_131 ⟨Nat.le_of_ble_eq_true rfl, Nat.le_of_ble_eq_true rfl⟩) hP hD hS hA [11, 8, 12] [0, 1, 2, 3, 4, 5, 6, 7, 9, 10] rfl rfl (by decide +kernel) (by decide +kernel) ?_
    clear hP hD hS
    try clear locs
    try clear H
    intro u_22 H locs hw_r_21 hP hD hS
    refine W.widen (k := 6) (n := 212482) (Nat.le_of_ble_eq_true rfl) (Nat.le_of_ble_eq_true rfl) ?_
    replace hP : va_P D vwCl [(msm, .inl (cs 0, 2, .inl (smF2 (nI 1) (nI 1)))), (mtb, .inl (cs 5, 2, .inr (.inr (.inr (.inr (va_up (va_up (fun _ => none) 0 (some tb0_5)) 1 (some tb1_6))))))), (mti, .inl (cs 6, 2, .inr (.inr (.inr (.inr (va_up (va_up (fun _ => none) 0 (some ti0_7)) 1 (some ti1_8))))))), (st1_4, .inl (cs 0, 96048, .inl q1_10)), (tb0_5, .inl (cs 0, 8192, .inl tc0_11)), (tb1_6, .inl (cs 0, 8192, .inl tc1_12)), (ti0_7, .inl (cs 1, 2001, .inr (.inl u0_13))), (ti1_8, .inl (cs 1, 2001, .inr (.inl u1_14))), (mst, .inl (cs 5, 2, .inr (.inr (.inr (.inr (va_up (va_up (fun _ => none) 0 (some st0_3)) 1 (some st1_4))))))), (st0_3, .inl (cs 0, 96048, .inl q0_9)), (hm, .inr (12, [.ref ms, .ref mkp, .int (nI 0), .ref mtr, .int (nI 4), .int (nI 2), .int (nI 2), .int (nI 3), .int (nI 2), .int (nI 1), .ref mas, .int (nI 0), .int (nI 0), .int (nI 0), .ref mso, .ref mon, .ref mot, .ref man, .int (nI 0), .int (nI 0), .ref mst, .ref msm, .ref mtb, .ref mti, .ref mfr, .ref mbn, .ref mbs, .ref mde, .int (nI 0), .int (nI 0), .int (nI 0), .int (nI 0), .long 0, .long 0, .ref maa, .ref mab, .ref mba, .ref mbb])), (mtr, .inl (cs 0, 288, .inl freshS)), (ms, .inl (cs 0, 288, .inl freshS))] H := hP
    replace hD : va_D A [(msm, .inl (cs 0, 2, .inl (smF2 (nI 1) (nI 1)))), (mtb, .inl (cs 5, 2, .inr (.inr (.inr (.inr (va_up (va_up (fun _ => none) 0 (some tb0_5)) 1 (some tb1_6))))))), (mti, .inl (cs 6, 2, .inr (.inr (.inr (.inr (va_up (va_up (fun _ => none) 0 (some ti0_7)) 1 (some ti1_8))))))), (st1_4, .inl (cs 0, 96048, .inl q1_10)), (tb0_5, .inl (cs 0, 8192, .inl tc0_11)), (tb1_6, .inl (cs 0, 8192, .inl tc1_12)), (ti0_7, .inl (cs 1, 2001, .inr (.inl u0_13))), (ti1_8, .inl (cs 1, 2001, .inr (.inl u1_14))), (mst, .inl (cs 5, 2, .inr (.inr (.inr (.inr (va_up (va_up (fun _ => none) 0 (some st0_3)) 1 (some st1_4))))))), (st0_3, .inl (cs 0, 96048, .inl q0_9)), (hm, .inr (12, [.ref ms, .ref mkp, .int (nI 0), .ref mtr, .int (nI 4), .int (nI 2), .int (nI 2), .int (nI 3), .int (nI 2), .int (nI 1), .ref mas, .int (nI 0), .int (nI 0), .int (nI 0), .ref mso, .ref mon, .ref mot, .ref man, .int (nI 0), .int (nI 0), .ref mst, .ref msm, .ref mtb, .ref mti, .ref mfr, .ref mbn, .ref mbs, .ref mde, .int (nI 0), .int (nI 0), .int (nI 0), .int (nI 0), .long 0, .long 0, .ref maa, .ref mab, .ref mba, .ref mbb])), (mtr, .inl (cs 0, 288, .inl freshS)), (ms, .inl (cs 0, 288, .inl freshS))] := hD
    refine lv_lload hx hb dX12_counted_134 (lv_at hl 2 rfl) ?_
    exact xretl C () rfl (xP_map hP [] rfl) (hD.sub [] (by decide +kernel) rfl) hS (Nat.le_of_ble_eq_true rfl) (Nat.le_of_ble_eq_true rfl) dX12_counted_136
  · -- split
    replace hP : va_P D vwCl [(hm, .inr (12, [.ref ms, .ref mkp, .int (nI 0), .ref mtr, .int (nI 4), .int (nI 2), .int (nI 2), .int (nI 3), .int (nI 2), .int (nI 1), .ref mas, .int (nI 0), .int (nI 0), .int (nI 0), .ref mso, .ref mon, .ref mot, .ref man, .int (nI 0), .int (nI 0), .ref mst, .ref msm, .ref mtb, .ref mti, .ref mfr, .ref mbn, .ref mbs, .ref mde, .int (nI 0), .int (nI 0), .int (nI 0), .int (nI 0), .long 0, .long 0, .ref maa, .ref mab, .ref mba, .ref mbb])), (ms, .inl (cs 0, 288, .inl freshS)), (mtr, .inl (cs 0, 288, .inl freshS)), (msm, .inl (cs 0, 2, .inl (smF2 (nI 1) (nI 1)))), (mst, .inl (cs 5, 2, .inr (.inr (.inr (.inr (va_up (va_up (fun _ => none) 0 (some st0_3)) 1 (some st1_4))))))), (mtb, .inl (cs 5, 2, .inr (.inr (.inr (.inr (va_up (va_up (fun _ => none) 0 (some tb0_5)) 1 (some tb1_6))))))), (mti, .inl (cs 6, 2, .inr (.inr (.inr (.inr (va_up (va_up (fun _ => none) 0 (some ti0_7)) 1 (some ti1_8))))))), (st0_3, .inl (cs 0, 96048, .inl q0_9)), (st1_4, .inl (cs 0, 96048, .inl q1_10)), (tb0_5, .inl (cs 0, 8192, .inl tc0_11)), (tb1_6, .inl (cs 0, 8192, .inl tc1_12)), (ti0_7, .inl (cs 1, 2001, .inr (.inl u0_13))), (ti1_8, .inl (cs 1, 2001, .inr (.inl u1_14)))] H := hP
    replace hD : va_D A [(hm, .inr (12, [.ref ms, .ref mkp, .int (nI 0), .ref mtr, .int (nI 4), .int (nI 2), .int (nI 2), .int (nI 3), .int (nI 2), .int (nI 1), .ref mas, .int (nI 0), .int (nI 0), .int (nI 0), .ref mso, .ref mon, .ref mot, .ref man, .int (nI 0), .int (nI 0), .ref mst, .ref msm, .ref mtb, .ref mti, .ref mfr, .ref mbn, .ref mbs, .ref mde, .int (nI 0), .int (nI 0), .int (nI 0), .int (nI 0), .long 0, .long 0, .ref maa, .ref mab, .ref mba, .ref mbb])), (ms, .inl (cs 0, 288, .inl freshS)), (mtr, .inl (cs 0, 288, .inl freshS)), (msm, .inl (cs 0, 2, .inl (smF2 (nI 1) (nI 1)))), (mst, .inl (cs 5, 2, .inr (.inr (.inr (.inr (va_up (va_up (fun _ => none) 0 (some st0_3)) 1 (some st1_4))))))), (mtb, .inl (cs 5, 2, .inr (.inr (.inr (.inr (va_up (va_up (fun _ => none) 0 (some tb0_5)) 1 (some tb1_6))))))), (mti, .inl (cs 6, 2, .inr (.inr (.inr (.inr (va_up (va_up (fun _ => none) 0 (some ti0_7)) 1 (some ti1_8))))))), (st0_3, .inl (cs 0, 96048, .inl q0_9)), (st1_4, .inl (cs 0, 96048, .inl q1_10)), (tb0_5, .inl (cs 0, 8192, .inl tc0_11)), (tb1_6, .inl (cs 0, 8192, .inl tc1_12)), (ti0_7, .inl (cs 1, 2001, .inr (.inl u0_13))), (ti1_8, .inl (cs 1, 2001, .inr (.inl u1_14)))] := hD
    refine lv_istore (lv' := [(4, .int (nI 1)), (0, .ref hm), (1, .int (nI t)), (2, .int (nI 1)), (3, .int (nI 0))]) hx hb dX12_counted_5 hl (by decide) rfl ?_
    clear hl
    try clear ls
    intro ls hl
    refine lv_iload hx hb dX12_counted_7 (lv_at hl 0 rfl) ?_
    refine lv_if_ge (tgt := 16) hx hb dX12_counted_9 (by decide) (fun _ => ?_) (fun c => absurd (by decide) c)
    refine lv_aload_n hx hb dX12_counted_16 rfl (lv_at hl 1 rfl) ?_
    refine lv_aload_n hx hb dX12_counted_17 rfl (lv_at hl 1 rfl) ?_
    refine xget C hP 0 rfl rfl zuX12 0 (by decide) zw5_213 rfl dX12_counted_18 ?_
    refine lv_aload_n hx hb dX12_counted_21 rfl (lv_at hl 1 rfl) ?_
    refine xget C hP 0 rfl rfl zuX12 3 (by decide) zw5_216 rfl dX12_counted_22 ?_
    refine xv (wr := [(msm, .inl (cs 0, 2, .inl (smF2 (nI 1) (nI 1)))), (mst, .inl (cs 5, 2, .inr (.inr (.inr (.inr (va_up (va_up (fun _ => none) 0 (some st0_3)) 1 (some st1_4))))))), (mtb, .inl (cs 5, 2, .inr (.inr (.inr (.inr (va_up (va_up (fun _ => none) 0 (some tb0_5)) 1 (some tb1_6))))))), (mti, .inl (cs 6, 2, .inr (.inr (.inr (.inr (va_up (va_up (fun _ => none) 0 (some ti0_7)) 1 (some ti1_8))))))), (st0_3, .inl (cs 0, 96048, .inl q0_9)), (st1_4, .inl (cs 0, 96048, .inl q1_10)), (tb0_5, .inl (cs 0, 8192, .inl tc0_11)), (tb1_6, .inl (cs 0, 8192, .inl tc1_12)), (ti0_7, .inl (cs 1, 2001, .inr (.inl u0_13))), (ti1_8, .inl (cs 1, 2001, .inr (.inl u1_14)))]) (xV (As := [.ref ms, .ref mtr]) (rest := []) C (c_X12_puts_m l D cs hm ms mkp mtr mas mso mon mot man mst msm mtb mti mfr mbn mbs mde maa mab mba mbb ms mtr freshS freshS) kX12_148 hP hD [0, 1, 2] rfl (by decide +kernel) 0 rfl rfl rfl ⟨Nat.le_of_ble_eq_true rfl, Nat.le_of_ble_eq_true rfl⟩ rfl hl.1 rfl (Nat.le_of_ble_eq_true rfl) dX12_counted_25 ⟨Nat.le_of_ble_eq_true rfl, Nat.le_of_ble_eq_true rfl⟩) hP hD hS hA [0, 1, 2] [3, 4, 5, 6, 7, 8, 9, 10, 11, 12] rfl rfl (by decide +kernel) (by decide +kernel) ?_
    clear hP hD hS
    try clear locs
    try clear H
    intro u_24 H locs hw_r_23 hP hD hS
    refine W.widen (k := 6) (n := 212482) (Nat.le_of_ble_eq_true rfl) (Nat.le_of_ble_eq_true rfl) ?_
    replace hP : va_P D vwCl [(msm, .inl (cs 0, 2, .inl (smF2 (nI 1) (nI 1)))), (mst, .inl (cs 5, 2, .inr (.inr (.inr (.inr (va_up (va_up (fun _ => none) 0 (some st0_3)) 1 (some st1_4))))))), (mtb, .inl (cs 5, 2, .inr (.inr (.inr (.inr (va_up (va_up (fun _ => none) 0 (some tb0_5)) 1 (some tb1_6))))))), (mti, .inl (cs 6, 2, .inr (.inr (.inr (.inr (va_up (va_up (fun _ => none) 0 (some ti0_7)) 1 (some ti1_8))))))), (st0_3, .inl (cs 0, 96048, .inl q0_9)), (st1_4, .inl (cs 0, 96048, .inl q1_10)), (tb0_5, .inl (cs 0, 8192, .inl tc0_11)), (tb1_6, .inl (cs 0, 8192, .inl tc1_12)), (ti0_7, .inl (cs 1, 2001, .inr (.inl u0_13))), (ti1_8, .inl (cs 1, 2001, .inr (.inl u1_14))), (hm, .inr (12, [.ref ms, .ref mkp, .int (nI 0), .ref mtr, .int (nI 4), .int (nI 2), .int (nI 2), .int (nI 3), .int (nI 2), .int (nI 1), .ref mas, .int (nI 0), .int (nI 0), .int (nI 0), .ref mso, .ref mon, .ref mot, .ref man, .int (nI 0), .int (nI 0), .ref mst, .ref msm, .ref mtb, .ref mti, .ref mfr, .ref mbn, .ref mbs, .ref mde, .int (nI 0), .int (nI 0), .int (nI 0), .int (nI 0), .long 0, .long 0, .ref maa, .ref mab, .ref mba, .ref mbb])), (ms, .inl (cs 0, 288, .inl freshS)), (mtr, .inl (cs 0, 288, .inl freshS))] H := hP
    replace hD : va_D A [(msm, .inl (cs 0, 2, .inl (smF2 (nI 1) (nI 1)))), (mst, .inl (cs 5, 2, .inr (.inr (.inr (.inr (va_up (va_up (fun _ => none) 0 (some st0_3)) 1 (some st1_4))))))), (mtb, .inl (cs 5, 2, .inr (.inr (.inr (.inr (va_up (va_up (fun _ => none) 0 (some tb0_5)) 1 (some tb1_6))))))), (mti, .inl (cs 6, 2, .inr (.inr (.inr (.inr (va_up (va_up (fun _ => none) 0 (some ti0_7)) 1 (some ti1_8))))))), (st0_3, .inl (cs 0, 96048, .inl q0_9)), (st1_4, .inl (cs 0, 96048, .inl q1_10)), (tb0_5, .inl (cs 0, 8192, .inl tc0_11)), (tb1_6, .inl (cs 0, 8192, .inl tc1_12)), (ti0_7, .inl (cs 1, 2001, .inr (.inl u0_13))), (ti1_8, .inl (cs 1, 2001, .inr (.inl u1_14))), (hm, .inr (12, [.ref ms, .ref mkp, .int (nI 0), .ref mtr, .int (nI 4), .int (nI 2), .int (nI 2), .int (nI 3), .int (nI 2), .int (nI 1), .ref mas, .int (nI 0), .int (nI 0), .int (nI 0), .ref mso, .ref mon, .ref mot, .ref man, .int (nI 0), .int (nI 0), .ref mst, .ref msm, .ref mtb, .ref mti, .ref mfr, .ref mbn, .ref mbs, .ref mde, .int (nI 0), .int (nI 0), .int (nI 0), .int (nI 0), .long 0, .long 0, .ref maa, .ref mab, .ref mba, .ref mbb])), (ms, .inl (cs 0, 288, .inl freshS)), (mtr, .inl (cs 0, 288, .inl freshS))] := hD
    refine lv_lconst (v := 0) hx hb dX12_counted_28 (by decide) ?_
    refine lv_lstore (lv' := [(5, .long 0), (4, .int (nI 1)), (0, .ref hm), (1, .int (nI t)), (2, .int (nI 1)), (3, .int (nI 0))]) hx hb dX12_counted_29 hl (by decide) rfl ?_
    clear hl
    try clear ls
    intro ls hl
    refine lv_iconst (v := nI 0) hx hb dX12_counted_31 (by decide) ?_
    refine lv_istore (lv' := [(7, .int (nI 0)), (5, .long 0), (4, .int (nI 1)), (0, .ref hm), (1, .int (nI t)), (2, .int (nI 1)), (3, .int (nI 0))]) hx hb dX12_counted_32 hl (by decide) rfl ?_
    clear hl
    try clear ls
    intro ls hl
    refine lv_iload hx hb dX12_counted_34 (lv_at hl 0 rfl) ?_
    refine lv_aload_n hx hb dX12_counted_36 rfl (lv_at hl 3 rfl) ?_
    refine xget C hP 10 rfl rfl zuX12 21 (by decide) zw5_234 rfl dX12_counted_37 ?_
    refine lv_iload hx hb dX12_counted_40 (lv_at hl 2 rfl) ?_
    refine xiald C hP 0 rfl 1 rfl (by decide) (by decide) dX12_counted_42 ?_
    refine lv_topi (nm_r (e' := nI 1) (by decide) ?_)
    refine lv_icmp_ge (tgt := 122) hx hb dX12_counted_43 (by decide) (fun c => absurd c (by decide)) (fun _ => ?_)
    refine lv_aload_n hx hb dX12_counted_46 rfl (lv_at hl 3 rfl) ?_
    refine lv_iload hx hb dX12_counted_47 (lv_at hl 2 rfl) ?_
    refine lv_iload hx hb dX12_counted_49 (lv_at hl 0 rfl) ?_
    refine xv (wr := [(msm, .inl (cs 0, 2, .inl (smF2 (nI 1) (nI 1)))), (mtb, .inl (cs 5, 2, .inr (.inr (.inr (.inr (va_up (va_up (fun _ => none) 0 (some tb0_5)) 1 (some tb1_6))))))), (mti, .inl (cs 6, 2, .inr (.inr (.inr (.inr (va_up (va_up (fun _ => none) 0 (some ti0_7)) 1 (some ti1_8))))))), (st0_3, .inl (cs 0, 96048, .inl q0_9)), (tb0_5, .inl (cs 0, 8192, .inl tc0_11)), (tb1_6, .inl (cs 0, 8192, .inl tc1_12)), (ti0_7, .inl (cs 1, 2001, .inr (.inl u0_13))), (ti1_8, .inl (cs 1, 2001, .inr (.inl u1_14))), (mtr, .inl (cs 0, 288, .inl freshS))]) (xV (As := [.int (nI 1), .int (nI 0)]) (rest := []) C (c_X12_brings_1 l D cs hm ms mkp mtr mas mso mon mot man mst msm mtb mti mfr mbn mbs mde maa mab mba mbb st1_4 (va_up (va_up (fun _ => none) 0 (some st0_3)) 1 (some st1_4)) q1_10 rfl hq) kX12_203 hP hD [10, 11, 1, 5] rfl (by decide +kernel) 0 rfl rfl rfl ⟨Nat.le_of_ble_eq_true rfl, Nat.le_of_ble_eq_true rfl⟩ rfl hl.1 rfl (Nat.le_of_ble_eq_true rfl) dX12_counted_51 ⟨Nat.le_of_ble_eq_true rfl, Nat.le_of_ble_eq_true rfl⟩) hP hD hS hA [10, 11, 1, 5] [0, 2, 3, 4, 6, 7, 8, 9, 12] rfl rfl (by decide +kernel) (by decide +kernel) ?_
    clear hP hD hS
    try clear locs
    try clear H
    intro u_26 H locs hw_r_25 hP hD hS
    refine W.widen (k := 6) (n := 212482) (Nat.le_of_ble_eq_true rfl) (Nat.le_of_ble_eq_true rfl) ?_
    replace hP : va_P D vwCl [(msm, .inl (cs 0, 2, .inl (smF2 (nI 1) (nI 1)))), (mtb, .inl (cs 5, 2, .inr (.inr (.inr (.inr (va_up (va_up (fun _ => none) 0 (some tb0_5)) 1 (some tb1_6))))))), (mti, .inl (cs 6, 2, .inr (.inr (.inr (.inr (va_up (va_up (fun _ => none) 0 (some ti0_7)) 1 (some ti1_8))))))), (st0_3, .inl (cs 0, 96048, .inl q0_9)), (tb0_5, .inl (cs 0, 8192, .inl tc0_11)), (tb1_6, .inl (cs 0, 8192, .inl tc1_12)), (ti0_7, .inl (cs 1, 2001, .inr (.inl u0_13))), (ti1_8, .inl (cs 1, 2001, .inr (.inl u1_14))), (mtr, .inl (cs 0, 288, .inl freshS)), (hm, .inr (12, [.ref ms, .ref mkp, .int (nI 0), .ref mtr, .int (nI 4), .int (nI 2), .int (nI 2), .int (nI 3), .int (nI 2), .int (nI 1), .ref mas, .int (nI 0), .int (nI 0), .int (nI 0), .ref mso, .ref mon, .ref mot, .ref man, .int (nI 0), .int (nI 0), .ref mst, .ref msm, .ref mtb, .ref mti, .ref mfr, .ref mbn, .ref mbs, .ref mde, .int (nI 0), .int (nI 0), .int (nI 0), .int (nI 0), .long 0, .long 0, .ref maa, .ref mab, .ref mba, .ref mbb])), (ms, .inl (cs 0, 288, .inl freshS)), (mst, .inl (cs 5, 2, .inr (.inr (.inr (.inr (va_up (va_up (fun _ => none) 0 (some st0_3)) 1 (some st1_4))))))), (st1_4, .inl (cs 0, 96048, .inl q1_10))] H := hP
    replace hD : va_D A [(msm, .inl (cs 0, 2, .inl (smF2 (nI 1) (nI 1)))), (mtb, .inl (cs 5, 2, .inr (.inr (.inr (.inr (va_up (va_up (fun _ => none) 0 (some tb0_5)) 1 (some tb1_6))))))), (mti, .inl (cs 6, 2, .inr (.inr (.inr (.inr (va_up (va_up (fun _ => none) 0 (some ti0_7)) 1 (some ti1_8))))))), (st0_3, .inl (cs 0, 96048, .inl q0_9)), (tb0_5, .inl (cs 0, 8192, .inl tc0_11)), (tb1_6, .inl (cs 0, 8192, .inl tc1_12)), (ti0_7, .inl (cs 1, 2001, .inr (.inl u0_13))), (ti1_8, .inl (cs 1, 2001, .inr (.inl u1_14))), (mtr, .inl (cs 0, 288, .inl freshS)), (hm, .inr (12, [.ref ms, .ref mkp, .int (nI 0), .ref mtr, .int (nI 4), .int (nI 2), .int (nI 2), .int (nI 3), .int (nI 2), .int (nI 1), .ref mas, .int (nI 0), .int (nI 0), .int (nI 0), .ref mso, .ref mon, .ref mot, .ref man, .int (nI 0), .int (nI 0), .ref mst, .ref msm, .ref mtb, .ref mti, .ref mfr, .ref mbn, .ref mbs, .ref mde, .int (nI 0), .int (nI 0), .int (nI 0), .int (nI 0), .long 0, .long 0, .ref maa, .ref mab, .ref mba, .ref mbb])), (ms, .inl (cs 0, 288, .inl freshS)), (mst, .inl (cs 5, 2, .inr (.inr (.inr (.inr (va_up (va_up (fun _ => none) 0 (some st0_3)) 1 (some st1_4))))))), (st1_4, .inl (cs 0, 96048, .inl q1_10))] := hD
    refine lv_iload_n hx hb dX12_counted_54 rfl (lv_at hl 5 rfl) ?_
    refine lv_iconst (v := nI 1) hx hb dX12_counted_55 (by decide) ?_
    refine lv_icmp_ne (tgt := 66) hx hb dX12_counted_56 (by decide) (fun c => absurd (by decide) c) (fun _ => ?_)
    refine lv_aload_n hx hb dX12_counted_59 rfl (lv_at hl 3 rfl) ?_
    refine xi (wr := [(msm, .inl (cs 0, 2, .inl (smF2 (nI 1) (nI 1)))), (mtb, .inl (cs 5, 2, .inr (.inr (.inr (.inr (va_up (va_up (fun _ => none) 0 (some tb0_5)) 1 (some tb1_6))))))), (mti, .inl (cs 6, 2, .inr (.inr (.inr (.inr (va_up (va_up (fun _ => none) 0 (some ti0_7)) 1 (some ti1_8))))))), (st0_3, .inl (cs 0, 96048, .inl q0_9)), (tb0_5, .inl (cs 0, 8192, .inl tc0_11)), (tb1_6, .inl (cs 0, 8192, .inl tc1_12)), (ti0_7, .inl (cs 1, 2001, .inr (.inl u0_13))), (ti1_8, .inl (cs 1, 2001, .inr (.inl u1_14))), (mtr, .inl (cs 0, 288, .inl freshS)), (mst, .inl (cs 5, 2, .inr (.inr (.inr (.inr (va_up (va_up (fun _ => none) 0 (some st0_3)) 1 (some st1_4))))))), (st1_4, .inl (cs 0, 96048, .inl q1_10))]) (xV (As := []) (rest := []) C (c_X12_areSplit_z l D cs hm ms mkp mtr mas mso mon mot man mst msm mtb mti mfr mbn mbs mde maa mab mba mbb) kX12_211 hP hD [9, 10] rfl (by decide +kernel) 0 rfl rfl rfl ⟨Nat.le_of_ble_eq_true rfl, Nat.le_of_ble_eq_true rfl⟩ rfl hl.1 rfl (Nat.le_of_ble_eq_true rfl) dX12_counted_60 ⟨Nat.le_of_ble_eq_true rfl, Nat.le_of_ble_eq_true rfl⟩) hP hD hS hA [9, 10] [0, 1, 2, 3, 4, 5, 6, 7, 8, 11, 12] rfl rfl (by decide +kernel) (by decide +kernel) ?_
    clear hP hD hS
    try clear locs
    try clear H
    intro r_27 u_28 H locs hw_r_27 hP hD hS
    have hw_r_27 : r_27 = nI 0 := hw_r_27
    refine W.widen (k := 6) (n := 212482) (Nat.le_of_ble_eq_true rfl) (Nat.le_of_ble_eq_true rfl) ?_
    replace hP : va_P D vwCl [(msm, .inl (cs 0, 2, .inl (smF2 (nI 1) (nI 1)))), (mtb, .inl (cs 5, 2, .inr (.inr (.inr (.inr (va_up (va_up (fun _ => none) 0 (some tb0_5)) 1 (some tb1_6))))))), (mti, .inl (cs 6, 2, .inr (.inr (.inr (.inr (va_up (va_up (fun _ => none) 0 (some ti0_7)) 1 (some ti1_8))))))), (st0_3, .inl (cs 0, 96048, .inl q0_9)), (tb0_5, .inl (cs 0, 8192, .inl tc0_11)), (tb1_6, .inl (cs 0, 8192, .inl tc1_12)), (ti0_7, .inl (cs 1, 2001, .inr (.inl u0_13))), (ti1_8, .inl (cs 1, 2001, .inr (.inl u1_14))), (mtr, .inl (cs 0, 288, .inl freshS)), (mst, .inl (cs 5, 2, .inr (.inr (.inr (.inr (va_up (va_up (fun _ => none) 0 (some st0_3)) 1 (some st1_4))))))), (st1_4, .inl (cs 0, 96048, .inl q1_10)), (hm, .inr (12, [.ref ms, .ref mkp, .int (nI 0), .ref mtr, .int (nI 4), .int (nI 2), .int (nI 2), .int (nI 3), .int (nI 2), .int (nI 1), .ref mas, .int (nI 0), .int (nI 0), .int (nI 0), .ref mso, .ref mon, .ref mot, .ref man, .int (nI 0), .int (nI 0), .ref mst, .ref msm, .ref mtb, .ref mti, .ref mfr, .ref mbn, .ref mbs, .ref mde, .int (nI 0), .int (nI 0), .int (nI 0), .int (nI 0), .long 0, .long 0, .ref maa, .ref mab, .ref mba, .ref mbb])), (ms, .inl (cs 0, 288, .inl freshS))] H := hP
    replace hD : va_D A [(msm, .inl (cs 0, 2, .inl (smF2 (nI 1) (nI 1)))), (mtb, .inl (cs 5, 2, .inr (.inr (.inr (.inr (va_up (va_up (fun _ => none) 0 (some tb0_5)) 1 (some tb1_6))))))), (mti, .inl (cs 6, 2, .inr (.inr (.inr (.inr (va_up (va_up (fun _ => none) 0 (some ti0_7)) 1 (some ti1_8))))))), (st0_3, .inl (cs 0, 96048, .inl q0_9)), (tb0_5, .inl (cs 0, 8192, .inl tc0_11)), (tb1_6, .inl (cs 0, 8192, .inl tc1_12)), (ti0_7, .inl (cs 1, 2001, .inr (.inl u0_13))), (ti1_8, .inl (cs 1, 2001, .inr (.inl u1_14))), (mtr, .inl (cs 0, 288, .inl freshS)), (mst, .inl (cs 5, 2, .inr (.inr (.inr (.inr (va_up (va_up (fun _ => none) 0 (some st0_3)) 1 (some st1_4))))))), (st1_4, .inl (cs 0, 96048, .inl q1_10)), (hm, .inr (12, [.ref ms, .ref mkp, .int (nI 0), .ref mtr, .int (nI 4), .int (nI 2), .int (nI 2), .int (nI 3), .int (nI 2), .int (nI 1), .ref mas, .int (nI 0), .int (nI 0), .int (nI 0), .ref mso, .ref mon, .ref mot, .ref man, .int (nI 0), .int (nI 0), .ref mst, .ref msm, .ref mtb, .ref mti, .ref mfr, .ref mbn, .ref mbs, .ref mde, .int (nI 0), .int (nI 0), .int (nI 0), .int (nI 0), .long 0, .long 0, .ref maa, .ref mab, .ref mba, .ref mbb])), (ms, .inl (cs 0, 288, .inl freshS))] := hD
    subst hw_r_27
    refine lv_goto (tgt := 94) hx hb dX12_counted_63 (by decide) ?_
    refine lv_istore (lv' := [(8, .int (nI 0)), (7, .int (nI 0)), (5, .long 0), (4, .int (nI 1)), (0, .ref hm), (1, .int (nI t)), (2, .int (nI 1)), (3, .int (nI 0))]) hx hb dX12_counted_94 hl (by decide) rfl ?_
    clear hl
    try clear ls
    intro ls hl
    refine lv_iload hx hb dX12_counted_96 (lv_at hl 0 rfl) ?_
    refine lv_if_eq (tgt := 116) hx hb dX12_counted_98 (by decide) (fun _ => ?_) (fun c => absurd (by decide) c)
    refine lv_iinc (v := nI 1) (lv' := [(7, .int (nI 1)), (8, .int (nI 0)), (5, .long 0), (4, .int (nI 1)), (0, .ref hm), (1, .int (nI t)), (2, .int (nI 1)), (3, .int (nI 0))]) hx hb dX12_counted_116 hl (k := 1) rfl (by decide) (by decide) rfl ?_
    clear hl
    try clear ls
    intro ls hl
    refine lv_goto (tgt := 34) hx hb dX12_counted_119 (by decide) ?_
    refine lv_iload hx hb dX12_counted_34 (lv_at hl 0 rfl) ?_
    refine lv_aload_n hx hb dX12_counted_36 rfl (lv_at hl 4 rfl) ?_
    refine xget C hP 11 rfl rfl zuX12 21 (by decide) zw5_234 rfl dX12_counted_37 ?_
    refine lv_iload hx hb dX12_counted_40 (lv_at hl 3 rfl) ?_
    refine xiald C hP 0 rfl 1 rfl (by decide) (by decide) dX12_counted_42 ?_
    refine lv_topi (nm_r (e' := nI 1) (by decide) ?_)
    refine lv_icmp_ge (tgt := 122) hx hb dX12_counted_43 (by decide) (fun _ => ?_) (fun c => absurd (by decide) c)
    refine lv_aload_n hx hb dX12_counted_122 rfl (lv_at hl 4 rfl) ?_
    refine lv_aload_n hx hb dX12_counted_123 rfl (lv_at hl 4 rfl) ?_
    refine xget C hP 11 rfl rfl zuX12 3 (by decide) zw5_216 rfl dX12_counted_124 ?_
    refine lv_aload_n hx hb dX12_counted_127 rfl (lv_at hl 4 rfl) ?_
    refine xget C hP 11 rfl rfl zuX12 0 (by decide) zw5_213 rfl dX12_counted_128 ?_
    refine xv (wr := [(msm, .inl (cs 0, 2, .inl (smF2 (nI 1) (nI 1)))), (mtb, .inl (cs 5, 2, .inr (.inr (.inr (.inr (va_up (va_up (fun _ => none) 0 (some tb0_5)) 1 (some tb1_6))))))), (mti, .inl (cs 6, 2, .inr (.inr (.inr (.inr (va_up (va_up (fun _ => none) 0 (some ti0_7)) 1 (some ti1_8))))))), (st0_3, .inl (cs 0, 96048, .inl q0_9)), (tb0_5, .inl (cs 0, 8192, .inl tc0_11)), (tb1_6, .inl (cs 0, 8192, .inl tc1_12)), (ti0_7, .inl (cs 1, 2001, .inr (.inl u0_13))), (ti1_8, .inl (cs 1, 2001, .inr (.inl u1_14))), (mst, .inl (cs 5, 2, .inr (.inr (.inr (.inr (va_up (va_up (fun _ => none) 0 (some st0_3)) 1 (some st1_4))))))), (st1_4, .inl (cs 0, 96048, .inl q1_10))]) (xV (As := [.ref mtr, .ref ms]) (rest := []) C (c_X12_puts_m l D cs hm ms mkp mtr mas mso mon mot man mst msm mtb mti mfr mbn mbs mde maa mab mba mbb mtr ms freshS freshS) kX12_148 hP hD [11, 8, 12] rfl (by decide +kernel) 0 rfl rfl rfl ⟨Nat.le_of_ble_eq_true rfl, Nat.le_of_ble_eq_true rfl⟩ rfl hl.1 rfl (Nat.le_of_ble_eq_true rfl) dX12_counted_131 ⟨Nat.le_of_ble_eq_true rfl, Nat.le_of_ble_eq_true rfl⟩) hP hD hS hA [11, 8, 12] [0, 1, 2, 3, 4, 5, 6, 7, 9, 10] rfl rfl (by decide +kernel) (by decide +kernel) ?_
    clear hP hD hS
    try clear locs
    try clear H
    intro u_30 H locs hw_r_29 hP hD hS
    refine W.widen (k := 6) (n := 212482) (Nat.le_of_ble_eq_true rfl) (Nat.le_of_ble_eq_true rfl) ?_
    replace hP : va_P D vwCl [(msm, .inl (cs 0, 2, .inl (smF2 (nI 1) (nI 1)))), (mtb, .inl (cs 5, 2, .inr (.inr (.inr (.inr (va_up (va_up (fun _ => none) 0 (some tb0_5)) 1 (some tb1_6))))))), (mti, .inl (cs 6, 2, .inr (.inr (.inr (.inr (va_up (va_up (fun _ => none) 0 (some ti0_7)) 1 (some ti1_8))))))), (st0_3, .inl (cs 0, 96048, .inl q0_9)), (tb0_5, .inl (cs 0, 8192, .inl tc0_11)), (tb1_6, .inl (cs 0, 8192, .inl tc1_12)), (ti0_7, .inl (cs 1, 2001, .inr (.inl u0_13))), (ti1_8, .inl (cs 1, 2001, .inr (.inl u1_14))), (mst, .inl (cs 5, 2, .inr (.inr (.inr (.inr (va_up (va_up (fun _ => none) 0 (some st0_3)) 1 (some st1_4))))))), (st1_4, .inl (cs 0, 96048, .inl q1_10)), (hm, .inr (12, [.ref ms, .ref mkp, .int (nI 0), .ref mtr, .int (nI 4), .int (nI 2), .int (nI 2), .int (nI 3), .int (nI 2), .int (nI 1), .ref mas, .int (nI 0), .int (nI 0), .int (nI 0), .ref mso, .ref mon, .ref mot, .ref man, .int (nI 0), .int (nI 0), .ref mst, .ref msm, .ref mtb, .ref mti, .ref mfr, .ref mbn, .ref mbs, .ref mde, .int (nI 0), .int (nI 0), .int (nI 0), .int (nI 0), .long 0, .long 0, .ref maa, .ref mab, .ref mba, .ref mbb])), (mtr, .inl (cs 0, 288, .inl freshS)), (ms, .inl (cs 0, 288, .inl freshS))] H := hP
    replace hD : va_D A [(msm, .inl (cs 0, 2, .inl (smF2 (nI 1) (nI 1)))), (mtb, .inl (cs 5, 2, .inr (.inr (.inr (.inr (va_up (va_up (fun _ => none) 0 (some tb0_5)) 1 (some tb1_6))))))), (mti, .inl (cs 6, 2, .inr (.inr (.inr (.inr (va_up (va_up (fun _ => none) 0 (some ti0_7)) 1 (some ti1_8))))))), (st0_3, .inl (cs 0, 96048, .inl q0_9)), (tb0_5, .inl (cs 0, 8192, .inl tc0_11)), (tb1_6, .inl (cs 0, 8192, .inl tc1_12)), (ti0_7, .inl (cs 1, 2001, .inr (.inl u0_13))), (ti1_8, .inl (cs 1, 2001, .inr (.inl u1_14))), (mst, .inl (cs 5, 2, .inr (.inr (.inr (.inr (va_up (va_up (fun _ => none) 0 (some st0_3)) 1 (some st1_4))))))), (st1_4, .inl (cs 0, 96048, .inl q1_10)), (hm, .inr (12, [.ref ms, .ref mkp, .int (nI 0), .ref mtr, .int (nI 4), .int (nI 2), .int (nI 2), .int (nI 3), .int (nI 2), .int (nI 1), .ref mas, .int (nI 0), .int (nI 0), .int (nI 0), .ref mso, .ref mon, .ref mot, .ref man, .int (nI 0), .int (nI 0), .ref mst, .ref msm, .ref mtb, .ref mti, .ref mfr, .ref mbn, .ref mbs, .ref mde, .int (nI 0), .int (nI 0), .int (nI 0), .int (nI 0), .long 0, .long 0, .ref maa, .ref mab, .ref mba, .ref mbb])), (mtr, .inl (cs 0, 288, .inl freshS)), (ms, .inl (cs 0, 288, .inl freshS))] := hD
    refine lv_lload hx hb dX12_counted_134 (lv_at hl 2 rfl) ?_
    exact xretl C () rfl (xP_map hP [] rfl) (hD.sub [] (by decide +kernel) rfl) hS (Nat.le_of_ble_eq_true rfl) (Nat.le_of_ble_eq_true rfl) dX12_counted_136

set_option maxHeartbeats 4000000 in
set_option maxRecDepth 100000 in
theorem c_X12_counted_2 (l : Launch) (D : va_G) (cs : Nat → ClassId) (hm ms mkp mtr mas mso mon mot man mst msm mtb mti mfr mbn mbs mde maa mab mba mbb : Nat) (tf : Nat → Int32) (t : Nat) (ht1 : 1 ≤ t) (ht2 : t ≤ 12) : xMet l D cs yX12_counted cX12_counted 9 (some .long) ({ frames := 5, cells := 6, slots := 212482, locals := 114 } : Room) [.ref hm, .int (nI t), .int (nI 2), .int (nI 0)] [(hm, .inr (12, [.ref ms, .ref mkp, .int (nI 0), .ref mtr, .int (nI 4), .int (nI 2), .int (nI 2), .int (nI 3), .int (nI 2), .int (nI 1), .ref mas, .int (nI 0), .int (nI 0), .int (nI 0), .ref mso, .ref mon, .ref mot, .ref man, .int (nI 0), .int (nI 0), .ref mst, .ref msm, .ref mtb, .ref mti, .ref mfr, .ref mbn, .ref mbs, .ref mde, .int (nI 0), .int (nI 0), .int (nI 0), .int (nI 0), .long 0, .long 0, .ref maa, .ref mab, .ref mba, .ref mbb])), (ms, .inl (cs 0, 288, .inl freshS)), (mtr, .inl (cs 0, 288, .inl tf)), (msm, .inl (cs 0, 2, .inl (fun _ => 0))), (mst, .inl (cs 5, 2, .inr (.inr (.inr (.inr (fun _ => none)))))), (mtb, .inl (cs 5, 2, .inr (.inr (.inr (.inr (fun _ => none)))))), (mti, .inl (cs 6, 2, .inr (.inr (.inr (.inr (fun _ => none))))))] (xQl D (fun (r : Int64) (_u : Unit) => r = 0) (fun (_u : Unit) => [])) := by
  refine xMet.intro (by decide) (Nat.le_of_ble_eq_true rfl) ?_
  intro p e s m args below meth c A ls C hP hD hS hl
  have hx := C.1
  have hb := C.2.1
  have hz := C.2.2.2.2.1
  have hown := C.2.2.2.1
  have hA := C.2.2.2.2.2.2.2.2.2
  have hAO := C.2.2.2.2.2.2.2.2.1.2.2
  replace hl : lv_has ls 9 [(0, .ref hm), (1, .int (nI t)), (2, .int (nI 2)), (3, .int (nI 0))] := hl
  obtain ⟨H, hH⟩ : ∃ H, H = s.heap := ⟨_, rfl⟩
  replace hP : va_P D vwCl [(hm, .inr (12, [.ref ms, .ref mkp, .int (nI 0), .ref mtr, .int (nI 4), .int (nI 2), .int (nI 2), .int (nI 3), .int (nI 2), .int (nI 1), .ref mas, .int (nI 0), .int (nI 0), .int (nI 0), .ref mso, .ref mon, .ref mot, .ref man, .int (nI 0), .int (nI 0), .ref mst, .ref msm, .ref mtb, .ref mti, .ref mfr, .ref mbn, .ref mbs, .ref mde, .int (nI 0), .int (nI 0), .int (nI 0), .int (nI 0), .long 0, .long 0, .ref maa, .ref mab, .ref mba, .ref mbb])), (ms, .inl (cs 0, 288, .inl freshS)), (mtr, .inl (cs 0, 288, .inl tf)), (msm, .inl (cs 0, 2, .inl (fun _ => 0))), (mst, .inl (cs 5, 2, .inr (.inr (.inr (.inr (fun _ => none)))))), (mtb, .inl (cs 5, 2, .inr (.inr (.inr (.inr (fun _ => none)))))), (mti, .inl (cs 6, 2, .inr (.inr (.inr (.inr (fun _ => none))))))] H := by rw [hH]; exact hP
  replace hS : va_S A s.heap H [] := by rw [hH]; exact hS
  obtain ⟨locs, hlocs⟩ : ∃ z : List Loc, z = [] := ⟨_, rfl⟩
  rw [← hlocs] at hS
  suffices hW : W p l e ({ frames := 5, cells := 6, slots := 212482, locals := 114 } : Room) s m args below meth c H locs 0 0 (MQ below ((xQl D (fun (r : Int64) (_u : Unit) => r = 0) (fun (_u : Unit) => [])) A) args s 6 212482 A) (F0 m 0 ls []) by rw [hlocs, hH] at hW; exact hW
  clear hH hlocs
  refine lv_aload_n hx hb dX12_counted_0 rfl (lv_at hl 0 rfl) ?_
  refine lv_iload_n hx hb dX12_counted_1 rfl (lv_at hl 1 rfl) ?_
  refine xi (wr := []) (xV (As := [.int (nI t)]) (rest := []) C (c_X12_goes l D cs hm ms mkp mtr mas mso mon mot man mst msm mtb mti mfr mbn mbs mde maa mab mba mbb tf t ht1 ht2) kX12_206 hP hD [0, 1, 2, 3, 4, 5, 6] rfl (by decide +kernel) 0 rfl rfl rfl ⟨Nat.le_of_ble_eq_true rfl, Nat.le_of_ble_eq_true rfl⟩ rfl hl.1 rfl (Nat.le_of_ble_eq_true rfl) dX12_counted_2 ⟨Nat.le_of_ble_eq_true rfl, Nat.le_of_ble_eq_true rfl⟩) hP hD hS hA [0, 1, 2, 3, 4, 5, 6] [] rfl rfl (by decide +kernel) (by decide +kernel) ?_
  clear hP hD hS
  try clear locs
  try clear H
  intro r_1 u_2 H locs hw_r_1 hP hD hS
  obtain ⟨st0_3, st1_4, tb0_5, tb1_6, ti0_7, ti1_8, q0_9, q1_10, tc0_11, tc1_12, u0_13, u1_14⟩ := u_2
  have hw_r_1 : (r_1 = nI 0 ∧ (∀ j, j < 48 → q0_9 j = freshS j) ∧ u0_13 0 = lN (12 ^ t)) ∨ (r_1 = nI 1 ∧ (∀ j, j < 48 → q1_10 j = freshS j) ∧ u1_14 0 = lN (12 ^ t)) := hw_r_1
  refine W.widen (k := 6) (n := 212482) (Nat.le_of_ble_eq_true rfl) (Nat.le_of_ble_eq_true rfl) ?_
  replace hP : va_P D vwCl [(hm, .inr (12, [.ref ms, .ref mkp, .int (nI 0), .ref mtr, .int (nI 4), .int (nI 2), .int (nI 2), .int (nI 3), .int (nI 2), .int (nI 1), .ref mas, .int (nI 0), .int (nI 0), .int (nI 0), .ref mso, .ref mon, .ref mot, .ref man, .int (nI 0), .int (nI 0), .ref mst, .ref msm, .ref mtb, .ref mti, .ref mfr, .ref mbn, .ref mbs, .ref mde, .int (nI 0), .int (nI 0), .int (nI 0), .int (nI 0), .long 0, .long 0, .ref maa, .ref mab, .ref mba, .ref mbb])), (ms, .inl (cs 0, 288, .inl freshS)), (mtr, .inl (cs 0, 288, .inl freshS)), (msm, .inl (cs 0, 2, .inl (smF2 (nI 1) (nI 1)))), (mst, .inl (cs 5, 2, .inr (.inr (.inr (.inr (va_up (va_up (fun _ => none) 0 (some st0_3)) 1 (some st1_4))))))), (mtb, .inl (cs 5, 2, .inr (.inr (.inr (.inr (va_up (va_up (fun _ => none) 0 (some tb0_5)) 1 (some tb1_6))))))), (mti, .inl (cs 6, 2, .inr (.inr (.inr (.inr (va_up (va_up (fun _ => none) 0 (some ti0_7)) 1 (some ti1_8))))))), (st0_3, .inl (cs 0, 96048, .inl q0_9)), (st1_4, .inl (cs 0, 96048, .inl q1_10)), (tb0_5, .inl (cs 0, 8192, .inl tc0_11)), (tb1_6, .inl (cs 0, 8192, .inl tc1_12)), (ti0_7, .inl (cs 1, 2001, .inr (.inl u0_13))), (ti1_8, .inl (cs 1, 2001, .inr (.inl u1_14)))] H := hP
  replace hD : va_D A [(hm, .inr (12, [.ref ms, .ref mkp, .int (nI 0), .ref mtr, .int (nI 4), .int (nI 2), .int (nI 2), .int (nI 3), .int (nI 2), .int (nI 1), .ref mas, .int (nI 0), .int (nI 0), .int (nI 0), .ref mso, .ref mon, .ref mot, .ref man, .int (nI 0), .int (nI 0), .ref mst, .ref msm, .ref mtb, .ref mti, .ref mfr, .ref mbn, .ref mbs, .ref mde, .int (nI 0), .int (nI 0), .int (nI 0), .int (nI 0), .long 0, .long 0, .ref maa, .ref mab, .ref mba, .ref mbb])), (ms, .inl (cs 0, 288, .inl freshS)), (mtr, .inl (cs 0, 288, .inl freshS)), (msm, .inl (cs 0, 2, .inl (smF2 (nI 1) (nI 1)))), (mst, .inl (cs 5, 2, .inr (.inr (.inr (.inr (va_up (va_up (fun _ => none) 0 (some st0_3)) 1 (some st1_4))))))), (mtb, .inl (cs 5, 2, .inr (.inr (.inr (.inr (va_up (va_up (fun _ => none) 0 (some tb0_5)) 1 (some tb1_6))))))), (mti, .inl (cs 6, 2, .inr (.inr (.inr (.inr (va_up (va_up (fun _ => none) 0 (some ti0_7)) 1 (some ti1_8))))))), (st0_3, .inl (cs 0, 96048, .inl q0_9)), (st1_4, .inl (cs 0, 96048, .inl q1_10)), (tb0_5, .inl (cs 0, 8192, .inl tc0_11)), (tb1_6, .inl (cs 0, 8192, .inl tc1_12)), (ti0_7, .inl (cs 1, 2001, .inr (.inl u0_13))), (ti1_8, .inl (cs 1, 2001, .inr (.inl u1_14)))] := hD
  rcases hw_r_1 with ⟨rfl, hq, hu⟩ | ⟨rfl, hq, hu⟩
  · -- split
    replace hP : va_P D vwCl [(hm, .inr (12, [.ref ms, .ref mkp, .int (nI 0), .ref mtr, .int (nI 4), .int (nI 2), .int (nI 2), .int (nI 3), .int (nI 2), .int (nI 1), .ref mas, .int (nI 0), .int (nI 0), .int (nI 0), .ref mso, .ref mon, .ref mot, .ref man, .int (nI 0), .int (nI 0), .ref mst, .ref msm, .ref mtb, .ref mti, .ref mfr, .ref mbn, .ref mbs, .ref mde, .int (nI 0), .int (nI 0), .int (nI 0), .int (nI 0), .long 0, .long 0, .ref maa, .ref mab, .ref mba, .ref mbb])), (ms, .inl (cs 0, 288, .inl freshS)), (mtr, .inl (cs 0, 288, .inl freshS)), (msm, .inl (cs 0, 2, .inl (smF2 (nI 1) (nI 1)))), (mst, .inl (cs 5, 2, .inr (.inr (.inr (.inr (va_up (va_up (fun _ => none) 0 (some st0_3)) 1 (some st1_4))))))), (mtb, .inl (cs 5, 2, .inr (.inr (.inr (.inr (va_up (va_up (fun _ => none) 0 (some tb0_5)) 1 (some tb1_6))))))), (mti, .inl (cs 6, 2, .inr (.inr (.inr (.inr (va_up (va_up (fun _ => none) 0 (some ti0_7)) 1 (some ti1_8))))))), (st0_3, .inl (cs 0, 96048, .inl q0_9)), (st1_4, .inl (cs 0, 96048, .inl q1_10)), (tb0_5, .inl (cs 0, 8192, .inl tc0_11)), (tb1_6, .inl (cs 0, 8192, .inl tc1_12)), (ti0_7, .inl (cs 1, 2001, .inr (.inl u0_13))), (ti1_8, .inl (cs 1, 2001, .inr (.inl u1_14)))] H := hP
    replace hD : va_D A [(hm, .inr (12, [.ref ms, .ref mkp, .int (nI 0), .ref mtr, .int (nI 4), .int (nI 2), .int (nI 2), .int (nI 3), .int (nI 2), .int (nI 1), .ref mas, .int (nI 0), .int (nI 0), .int (nI 0), .ref mso, .ref mon, .ref mot, .ref man, .int (nI 0), .int (nI 0), .ref mst, .ref msm, .ref mtb, .ref mti, .ref mfr, .ref mbn, .ref mbs, .ref mde, .int (nI 0), .int (nI 0), .int (nI 0), .int (nI 0), .long 0, .long 0, .ref maa, .ref mab, .ref mba, .ref mbb])), (ms, .inl (cs 0, 288, .inl freshS)), (mtr, .inl (cs 0, 288, .inl freshS)), (msm, .inl (cs 0, 2, .inl (smF2 (nI 1) (nI 1)))), (mst, .inl (cs 5, 2, .inr (.inr (.inr (.inr (va_up (va_up (fun _ => none) 0 (some st0_3)) 1 (some st1_4))))))), (mtb, .inl (cs 5, 2, .inr (.inr (.inr (.inr (va_up (va_up (fun _ => none) 0 (some tb0_5)) 1 (some tb1_6))))))), (mti, .inl (cs 6, 2, .inr (.inr (.inr (.inr (va_up (va_up (fun _ => none) 0 (some ti0_7)) 1 (some ti1_8))))))), (st0_3, .inl (cs 0, 96048, .inl q0_9)), (st1_4, .inl (cs 0, 96048, .inl q1_10)), (tb0_5, .inl (cs 0, 8192, .inl tc0_11)), (tb1_6, .inl (cs 0, 8192, .inl tc1_12)), (ti0_7, .inl (cs 1, 2001, .inr (.inl u0_13))), (ti1_8, .inl (cs 1, 2001, .inr (.inl u1_14)))] := hD
    refine lv_istore (lv' := [(4, .int (nI 0)), (0, .ref hm), (1, .int (nI t)), (2, .int (nI 2)), (3, .int (nI 0))]) hx hb dX12_counted_5 hl (by decide) rfl ?_
    clear hl
    try clear ls
    intro ls hl
    refine lv_iload hx hb dX12_counted_7 (lv_at hl 0 rfl) ?_
    refine lv_if_ge (tgt := 16) hx hb dX12_counted_9 (by decide) (fun _ => ?_) (fun c => absurd (by decide) c)
    refine lv_aload_n hx hb dX12_counted_16 rfl (lv_at hl 1 rfl) ?_
    refine lv_aload_n hx hb dX12_counted_17 rfl (lv_at hl 1 rfl) ?_
    refine xget C hP 0 rfl rfl zuX12 0 (by decide) zw5_213 rfl dX12_counted_18 ?_
    refine lv_aload_n hx hb dX12_counted_21 rfl (lv_at hl 1 rfl) ?_
    refine xget C hP 0 rfl rfl zuX12 3 (by decide) zw5_216 rfl dX12_counted_22 ?_
    refine xv (wr := [(msm, .inl (cs 0, 2, .inl (smF2 (nI 1) (nI 1)))), (mst, .inl (cs 5, 2, .inr (.inr (.inr (.inr (va_up (va_up (fun _ => none) 0 (some st0_3)) 1 (some st1_4))))))), (mtb, .inl (cs 5, 2, .inr (.inr (.inr (.inr (va_up (va_up (fun _ => none) 0 (some tb0_5)) 1 (some tb1_6))))))), (mti, .inl (cs 6, 2, .inr (.inr (.inr (.inr (va_up (va_up (fun _ => none) 0 (some ti0_7)) 1 (some ti1_8))))))), (st0_3, .inl (cs 0, 96048, .inl q0_9)), (st1_4, .inl (cs 0, 96048, .inl q1_10)), (tb0_5, .inl (cs 0, 8192, .inl tc0_11)), (tb1_6, .inl (cs 0, 8192, .inl tc1_12)), (ti0_7, .inl (cs 1, 2001, .inr (.inl u0_13))), (ti1_8, .inl (cs 1, 2001, .inr (.inl u1_14)))]) (xV (As := [.ref ms, .ref mtr]) (rest := []) C (c_X12_puts_m l D cs hm ms mkp mtr mas mso mon mot man mst msm mtb mti mfr mbn mbs mde maa mab mba mbb ms mtr freshS freshS) kX12_148 hP hD [0, 1, 2] rfl (by decide +kernel) 0 rfl rfl rfl ⟨Nat.le_of_ble_eq_true rfl, Nat.le_of_ble_eq_true rfl⟩ rfl hl.1 rfl (Nat.le_of_ble_eq_true rfl) dX12_counted_25 ⟨Nat.le_of_ble_eq_true rfl, Nat.le_of_ble_eq_true rfl⟩) hP hD hS hA [0, 1, 2] [3, 4, 5, 6, 7, 8, 9, 10, 11, 12] rfl rfl (by decide +kernel) (by decide +kernel) ?_
    clear hP hD hS
    try clear locs
    try clear H
    intro u_16 H locs hw_r_15 hP hD hS
    refine W.widen (k := 6) (n := 212482) (Nat.le_of_ble_eq_true rfl) (Nat.le_of_ble_eq_true rfl) ?_
    replace hP : va_P D vwCl [(msm, .inl (cs 0, 2, .inl (smF2 (nI 1) (nI 1)))), (mst, .inl (cs 5, 2, .inr (.inr (.inr (.inr (va_up (va_up (fun _ => none) 0 (some st0_3)) 1 (some st1_4))))))), (mtb, .inl (cs 5, 2, .inr (.inr (.inr (.inr (va_up (va_up (fun _ => none) 0 (some tb0_5)) 1 (some tb1_6))))))), (mti, .inl (cs 6, 2, .inr (.inr (.inr (.inr (va_up (va_up (fun _ => none) 0 (some ti0_7)) 1 (some ti1_8))))))), (st0_3, .inl (cs 0, 96048, .inl q0_9)), (st1_4, .inl (cs 0, 96048, .inl q1_10)), (tb0_5, .inl (cs 0, 8192, .inl tc0_11)), (tb1_6, .inl (cs 0, 8192, .inl tc1_12)), (ti0_7, .inl (cs 1, 2001, .inr (.inl u0_13))), (ti1_8, .inl (cs 1, 2001, .inr (.inl u1_14))), (hm, .inr (12, [.ref ms, .ref mkp, .int (nI 0), .ref mtr, .int (nI 4), .int (nI 2), .int (nI 2), .int (nI 3), .int (nI 2), .int (nI 1), .ref mas, .int (nI 0), .int (nI 0), .int (nI 0), .ref mso, .ref mon, .ref mot, .ref man, .int (nI 0), .int (nI 0), .ref mst, .ref msm, .ref mtb, .ref mti, .ref mfr, .ref mbn, .ref mbs, .ref mde, .int (nI 0), .int (nI 0), .int (nI 0), .int (nI 0), .long 0, .long 0, .ref maa, .ref mab, .ref mba, .ref mbb])), (ms, .inl (cs 0, 288, .inl freshS)), (mtr, .inl (cs 0, 288, .inl freshS))] H := hP
    replace hD : va_D A [(msm, .inl (cs 0, 2, .inl (smF2 (nI 1) (nI 1)))), (mst, .inl (cs 5, 2, .inr (.inr (.inr (.inr (va_up (va_up (fun _ => none) 0 (some st0_3)) 1 (some st1_4))))))), (mtb, .inl (cs 5, 2, .inr (.inr (.inr (.inr (va_up (va_up (fun _ => none) 0 (some tb0_5)) 1 (some tb1_6))))))), (mti, .inl (cs 6, 2, .inr (.inr (.inr (.inr (va_up (va_up (fun _ => none) 0 (some ti0_7)) 1 (some ti1_8))))))), (st0_3, .inl (cs 0, 96048, .inl q0_9)), (st1_4, .inl (cs 0, 96048, .inl q1_10)), (tb0_5, .inl (cs 0, 8192, .inl tc0_11)), (tb1_6, .inl (cs 0, 8192, .inl tc1_12)), (ti0_7, .inl (cs 1, 2001, .inr (.inl u0_13))), (ti1_8, .inl (cs 1, 2001, .inr (.inl u1_14))), (hm, .inr (12, [.ref ms, .ref mkp, .int (nI 0), .ref mtr, .int (nI 4), .int (nI 2), .int (nI 2), .int (nI 3), .int (nI 2), .int (nI 1), .ref mas, .int (nI 0), .int (nI 0), .int (nI 0), .ref mso, .ref mon, .ref mot, .ref man, .int (nI 0), .int (nI 0), .ref mst, .ref msm, .ref mtb, .ref mti, .ref mfr, .ref mbn, .ref mbs, .ref mde, .int (nI 0), .int (nI 0), .int (nI 0), .int (nI 0), .long 0, .long 0, .ref maa, .ref mab, .ref mba, .ref mbb])), (ms, .inl (cs 0, 288, .inl freshS)), (mtr, .inl (cs 0, 288, .inl freshS))] := hD
    refine lv_lconst (v := 0) hx hb dX12_counted_28 (by decide) ?_
    refine lv_lstore (lv' := [(5, .long 0), (4, .int (nI 0)), (0, .ref hm), (1, .int (nI t)), (2, .int (nI 2)), (3, .int (nI 0))]) hx hb dX12_counted_29 hl (by decide) rfl ?_
    clear hl
    try clear ls
    intro ls hl
    refine lv_iconst (v := nI 0) hx hb dX12_counted_31 (by decide) ?_
    refine lv_istore (lv' := [(7, .int (nI 0)), (5, .long 0), (4, .int (nI 0)), (0, .ref hm), (1, .int (nI t)), (2, .int (nI 2)), (3, .int (nI 0))]) hx hb dX12_counted_32 hl (by decide) rfl ?_
    clear hl
    try clear ls
    intro ls hl
    refine lv_iload hx hb dX12_counted_34 (lv_at hl 0 rfl) ?_
    refine lv_aload_n hx hb dX12_counted_36 rfl (lv_at hl 3 rfl) ?_
    refine xget C hP 10 rfl rfl zuX12 21 (by decide) zw5_234 rfl dX12_counted_37 ?_
    refine lv_iload hx hb dX12_counted_40 (lv_at hl 2 rfl) ?_
    refine xiald C hP 0 rfl 0 rfl (by decide) (by decide) dX12_counted_42 ?_
    refine lv_topi (nm_r (e' := nI 1) (by decide) ?_)
    refine lv_icmp_ge (tgt := 122) hx hb dX12_counted_43 (by decide) (fun c => absurd c (by decide)) (fun _ => ?_)
    refine lv_aload_n hx hb dX12_counted_46 rfl (lv_at hl 3 rfl) ?_
    refine lv_iload hx hb dX12_counted_47 (lv_at hl 2 rfl) ?_
    refine lv_iload hx hb dX12_counted_49 (lv_at hl 0 rfl) ?_
    refine xv (wr := [(msm, .inl (cs 0, 2, .inl (smF2 (nI 1) (nI 1)))), (mtb, .inl (cs 5, 2, .inr (.inr (.inr (.inr (va_up (va_up (fun _ => none) 0 (some tb0_5)) 1 (some tb1_6))))))), (mti, .inl (cs 6, 2, .inr (.inr (.inr (.inr (va_up (va_up (fun _ => none) 0 (some ti0_7)) 1 (some ti1_8))))))), (st1_4, .inl (cs 0, 96048, .inl q1_10)), (tb0_5, .inl (cs 0, 8192, .inl tc0_11)), (tb1_6, .inl (cs 0, 8192, .inl tc1_12)), (ti0_7, .inl (cs 1, 2001, .inr (.inl u0_13))), (ti1_8, .inl (cs 1, 2001, .inr (.inl u1_14))), (mtr, .inl (cs 0, 288, .inl freshS))]) (xV (As := [.int (nI 0), .int (nI 0)]) (rest := []) C (c_X12_brings_0 l D cs hm ms mkp mtr mas mso mon mot man mst msm mtb mti mfr mbn mbs mde maa mab mba mbb st0_3 (va_up (va_up (fun _ => none) 0 (some st0_3)) 1 (some st1_4)) q0_9 rfl hq) kX12_203 hP hD [10, 11, 1, 4] rfl (by decide +kernel) 0 rfl rfl rfl ⟨Nat.le_of_ble_eq_true rfl, Nat.le_of_ble_eq_true rfl⟩ rfl hl.1 rfl (Nat.le_of_ble_eq_true rfl) dX12_counted_51 ⟨Nat.le_of_ble_eq_true rfl, Nat.le_of_ble_eq_true rfl⟩) hP hD hS hA [10, 11, 1, 4] [0, 2, 3, 5, 6, 7, 8, 9, 12] rfl rfl (by decide +kernel) (by decide +kernel) ?_
    clear hP hD hS
    try clear locs
    try clear H
    intro u_18 H locs hw_r_17 hP hD hS
    refine W.widen (k := 6) (n := 212482) (Nat.le_of_ble_eq_true rfl) (Nat.le_of_ble_eq_true rfl) ?_
    replace hP : va_P D vwCl [(msm, .inl (cs 0, 2, .inl (smF2 (nI 1) (nI 1)))), (mtb, .inl (cs 5, 2, .inr (.inr (.inr (.inr (va_up (va_up (fun _ => none) 0 (some tb0_5)) 1 (some tb1_6))))))), (mti, .inl (cs 6, 2, .inr (.inr (.inr (.inr (va_up (va_up (fun _ => none) 0 (some ti0_7)) 1 (some ti1_8))))))), (st1_4, .inl (cs 0, 96048, .inl q1_10)), (tb0_5, .inl (cs 0, 8192, .inl tc0_11)), (tb1_6, .inl (cs 0, 8192, .inl tc1_12)), (ti0_7, .inl (cs 1, 2001, .inr (.inl u0_13))), (ti1_8, .inl (cs 1, 2001, .inr (.inl u1_14))), (mtr, .inl (cs 0, 288, .inl freshS)), (hm, .inr (12, [.ref ms, .ref mkp, .int (nI 0), .ref mtr, .int (nI 4), .int (nI 2), .int (nI 2), .int (nI 3), .int (nI 2), .int (nI 1), .ref mas, .int (nI 0), .int (nI 0), .int (nI 0), .ref mso, .ref mon, .ref mot, .ref man, .int (nI 0), .int (nI 0), .ref mst, .ref msm, .ref mtb, .ref mti, .ref mfr, .ref mbn, .ref mbs, .ref mde, .int (nI 0), .int (nI 0), .int (nI 0), .int (nI 0), .long 0, .long 0, .ref maa, .ref mab, .ref mba, .ref mbb])), (ms, .inl (cs 0, 288, .inl freshS)), (mst, .inl (cs 5, 2, .inr (.inr (.inr (.inr (va_up (va_up (fun _ => none) 0 (some st0_3)) 1 (some st1_4))))))), (st0_3, .inl (cs 0, 96048, .inl q0_9))] H := hP
    replace hD : va_D A [(msm, .inl (cs 0, 2, .inl (smF2 (nI 1) (nI 1)))), (mtb, .inl (cs 5, 2, .inr (.inr (.inr (.inr (va_up (va_up (fun _ => none) 0 (some tb0_5)) 1 (some tb1_6))))))), (mti, .inl (cs 6, 2, .inr (.inr (.inr (.inr (va_up (va_up (fun _ => none) 0 (some ti0_7)) 1 (some ti1_8))))))), (st1_4, .inl (cs 0, 96048, .inl q1_10)), (tb0_5, .inl (cs 0, 8192, .inl tc0_11)), (tb1_6, .inl (cs 0, 8192, .inl tc1_12)), (ti0_7, .inl (cs 1, 2001, .inr (.inl u0_13))), (ti1_8, .inl (cs 1, 2001, .inr (.inl u1_14))), (mtr, .inl (cs 0, 288, .inl freshS)), (hm, .inr (12, [.ref ms, .ref mkp, .int (nI 0), .ref mtr, .int (nI 4), .int (nI 2), .int (nI 2), .int (nI 3), .int (nI 2), .int (nI 1), .ref mas, .int (nI 0), .int (nI 0), .int (nI 0), .ref mso, .ref mon, .ref mot, .ref man, .int (nI 0), .int (nI 0), .ref mst, .ref msm, .ref mtb, .ref mti, .ref mfr, .ref mbn, .ref mbs, .ref mde, .int (nI 0), .int (nI 0), .int (nI 0), .int (nI 0), .long 0, .long 0, .ref maa, .ref mab, .ref mba, .ref mbb])), (ms, .inl (cs 0, 288, .inl freshS)), (mst, .inl (cs 5, 2, .inr (.inr (.inr (.inr (va_up (va_up (fun _ => none) 0 (some st0_3)) 1 (some st1_4))))))), (st0_3, .inl (cs 0, 96048, .inl q0_9))] := hD
    refine lv_iload_n hx hb dX12_counted_54 rfl (lv_at hl 5 rfl) ?_
    refine lv_iconst (v := nI 1) hx hb dX12_counted_55 (by decide) ?_
    refine lv_icmp_ne (tgt := 66) hx hb dX12_counted_56 (by decide) (fun _ => ?_) (fun c => absurd c (by decide))
    refine lv_iload_n hx hb dX12_counted_66 rfl (lv_at hl 5 rfl) ?_
    refine lv_iconst (v := nI 2) hx hb dX12_counted_67 (by decide) ?_
    refine lv_icmp_ne (tgt := 78) hx hb dX12_counted_68 (by decide) (fun c => absurd (by decide) c) (fun _ => ?_)
    refine lv_aload_n hx hb dX12_counted_71 rfl (lv_at hl 3 rfl) ?_
    refine xi (wr := [(msm, .inl (cs 0, 2, .inl (smF2 (nI 1) (nI 1)))), (mtb, .inl (cs 5, 2, .inr (.inr (.inr (.inr (va_up (va_up (fun _ => none) 0 (some tb0_5)) 1 (some tb1_6))))))), (mti, .inl (cs 6, 2, .inr (.inr (.inr (.inr (va_up (va_up (fun _ => none) 0 (some ti0_7)) 1 (some ti1_8))))))), (st1_4, .inl (cs 0, 96048, .inl q1_10)), (tb0_5, .inl (cs 0, 8192, .inl tc0_11)), (tb1_6, .inl (cs 0, 8192, .inl tc1_12)), (ti0_7, .inl (cs 1, 2001, .inr (.inl u0_13))), (ti1_8, .inl (cs 1, 2001, .inr (.inl u1_14))), (mtr, .inl (cs 0, 288, .inl freshS)), (mst, .inl (cs 5, 2, .inr (.inr (.inr (.inr (va_up (va_up (fun _ => none) 0 (some st0_3)) 1 (some st1_4))))))), (st0_3, .inl (cs 0, 96048, .inl q0_9))]) (xV (As := []) (rest := []) C (c_X12_areAgreed_z l D cs hm ms mkp mtr mas mso mon mot man mst msm mtb mti mfr mbn mbs mde maa mab mba mbb) kX12_215 hP hD [9, 10] rfl (by decide +kernel) 0 rfl rfl rfl ⟨Nat.le_of_ble_eq_true rfl, Nat.le_of_ble_eq_true rfl⟩ rfl hl.1 rfl (Nat.le_of_ble_eq_true rfl) dX12_counted_72 ⟨Nat.le_of_ble_eq_true rfl, Nat.le_of_ble_eq_true rfl⟩) hP hD hS hA [9, 10] [0, 1, 2, 3, 4, 5, 6, 7, 8, 11, 12] rfl rfl (by decide +kernel) (by decide +kernel) ?_
    clear hP hD hS
    try clear locs
    try clear H
    intro r_19 u_20 H locs hw_r_19 hP hD hS
    have hw_r_19 : r_19 = nI 0 := hw_r_19
    refine W.widen (k := 6) (n := 212482) (Nat.le_of_ble_eq_true rfl) (Nat.le_of_ble_eq_true rfl) ?_
    replace hP : va_P D vwCl [(msm, .inl (cs 0, 2, .inl (smF2 (nI 1) (nI 1)))), (mtb, .inl (cs 5, 2, .inr (.inr (.inr (.inr (va_up (va_up (fun _ => none) 0 (some tb0_5)) 1 (some tb1_6))))))), (mti, .inl (cs 6, 2, .inr (.inr (.inr (.inr (va_up (va_up (fun _ => none) 0 (some ti0_7)) 1 (some ti1_8))))))), (st1_4, .inl (cs 0, 96048, .inl q1_10)), (tb0_5, .inl (cs 0, 8192, .inl tc0_11)), (tb1_6, .inl (cs 0, 8192, .inl tc1_12)), (ti0_7, .inl (cs 1, 2001, .inr (.inl u0_13))), (ti1_8, .inl (cs 1, 2001, .inr (.inl u1_14))), (mtr, .inl (cs 0, 288, .inl freshS)), (mst, .inl (cs 5, 2, .inr (.inr (.inr (.inr (va_up (va_up (fun _ => none) 0 (some st0_3)) 1 (some st1_4))))))), (st0_3, .inl (cs 0, 96048, .inl q0_9)), (hm, .inr (12, [.ref ms, .ref mkp, .int (nI 0), .ref mtr, .int (nI 4), .int (nI 2), .int (nI 2), .int (nI 3), .int (nI 2), .int (nI 1), .ref mas, .int (nI 0), .int (nI 0), .int (nI 0), .ref mso, .ref mon, .ref mot, .ref man, .int (nI 0), .int (nI 0), .ref mst, .ref msm, .ref mtb, .ref mti, .ref mfr, .ref mbn, .ref mbs, .ref mde, .int (nI 0), .int (nI 0), .int (nI 0), .int (nI 0), .long 0, .long 0, .ref maa, .ref mab, .ref mba, .ref mbb])), (ms, .inl (cs 0, 288, .inl freshS))] H := hP
    replace hD : va_D A [(msm, .inl (cs 0, 2, .inl (smF2 (nI 1) (nI 1)))), (mtb, .inl (cs 5, 2, .inr (.inr (.inr (.inr (va_up (va_up (fun _ => none) 0 (some tb0_5)) 1 (some tb1_6))))))), (mti, .inl (cs 6, 2, .inr (.inr (.inr (.inr (va_up (va_up (fun _ => none) 0 (some ti0_7)) 1 (some ti1_8))))))), (st1_4, .inl (cs 0, 96048, .inl q1_10)), (tb0_5, .inl (cs 0, 8192, .inl tc0_11)), (tb1_6, .inl (cs 0, 8192, .inl tc1_12)), (ti0_7, .inl (cs 1, 2001, .inr (.inl u0_13))), (ti1_8, .inl (cs 1, 2001, .inr (.inl u1_14))), (mtr, .inl (cs 0, 288, .inl freshS)), (mst, .inl (cs 5, 2, .inr (.inr (.inr (.inr (va_up (va_up (fun _ => none) 0 (some st0_3)) 1 (some st1_4))))))), (st0_3, .inl (cs 0, 96048, .inl q0_9)), (hm, .inr (12, [.ref ms, .ref mkp, .int (nI 0), .ref mtr, .int (nI 4), .int (nI 2), .int (nI 2), .int (nI 3), .int (nI 2), .int (nI 1), .ref mas, .int (nI 0), .int (nI 0), .int (nI 0), .ref mso, .ref mon, .ref mot, .ref man, .int (nI 0), .int (nI 0), .ref mst, .ref msm, .ref mtb, .ref mti, .ref mfr, .ref mbn, .ref mbs, .ref mde, .int (nI 0), .int (nI 0), .int (nI 0), .int (nI 0), .long 0, .long 0, .ref maa, .ref mab, .ref mba, .ref mbb])), (ms, .inl (cs 0, 288, .inl freshS))] := hD
    subst hw_r_19
    refine lv_goto (tgt := 94) hx hb dX12_counted_75 (by decide) ?_
    refine lv_istore (lv' := [(8, .int (nI 0)), (7, .int (nI 0)), (5, .long 0), (4, .int (nI 0)), (0, .ref hm), (1, .int (nI t)), (2, .int (nI 2)), (3, .int (nI 0))]) hx hb dX12_counted_94 hl (by decide) rfl ?_
    clear hl
    try clear ls
    intro ls hl
    refine lv_iload hx hb dX12_counted_96 (lv_at hl 0 rfl) ?_
    refine lv_if_eq (tgt := 116) hx hb dX12_counted_98 (by decide) (fun _ => ?_) (fun c => absurd (by decide) c)
    refine lv_iinc (v := nI 1) (lv' := [(7, .int (nI 1)), (8, .int (nI 0)), (5, .long 0), (4, .int (nI 0)), (0, .ref hm), (1, .int (nI t)), (2, .int (nI 2)), (3, .int (nI 0))]) hx hb dX12_counted_116 hl (k := 1) rfl (by decide) (by decide) rfl ?_
    clear hl
    try clear ls
    intro ls hl
    refine lv_goto (tgt := 34) hx hb dX12_counted_119 (by decide) ?_
    refine lv_iload hx hb dX12_counted_34 (lv_at hl 0 rfl) ?_
    refine lv_aload_n hx hb dX12_counted_36 rfl (lv_at hl 4 rfl) ?_
    refine xget C hP 11 rfl rfl zuX12 21 (by decide) zw5_234 rfl dX12_counted_37 ?_
    refine lv_iload hx hb dX12_counted_40 (lv_at hl 3 rfl) ?_
    refine xiald C hP 0 rfl 0 rfl (by decide) (by decide) dX12_counted_42 ?_
    refine lv_topi (nm_r (e' := nI 1) (by decide) ?_)
    refine lv_icmp_ge (tgt := 122) hx hb dX12_counted_43 (by decide) (fun _ => ?_) (fun c => absurd (by decide) c)
    refine lv_aload_n hx hb dX12_counted_122 rfl (lv_at hl 4 rfl) ?_
    refine lv_aload_n hx hb dX12_counted_123 rfl (lv_at hl 4 rfl) ?_
    refine xget C hP 11 rfl rfl zuX12 3 (by decide) zw5_216 rfl dX12_counted_124 ?_
    refine lv_aload_n hx hb dX12_counted_127 rfl (lv_at hl 4 rfl) ?_
    refine xget C hP 11 rfl rfl zuX12 0 (by decide) zw5_213 rfl dX12_counted_128 ?_
    refine xv (wr := [(msm, .inl (cs 0, 2, .inl (smF2 (nI 1) (nI 1)))), (mtb, .inl (cs 5, 2, .inr (.inr (.inr (.inr (va_up (va_up (fun _ => none) 0 (some tb0_5)) 1 (some tb1_6))))))), (mti, .inl (cs 6, 2, .inr (.inr (.inr (.inr (va_up (va_up (fun _ => none) 0 (some ti0_7)) 1 (some ti1_8))))))), (st1_4, .inl (cs 0, 96048, .inl q1_10)), (tb0_5, .inl (cs 0, 8192, .inl tc0_11)), (tb1_6, .inl (cs 0, 8192, .inl tc1_12)), (ti0_7, .inl (cs 1, 2001, .inr (.inl u0_13))), (ti1_8, .inl (cs 1, 2001, .inr (.inl u1_14))), (mst, .inl (cs 5, 2, .inr (.inr (.inr (.inr (va_up (va_up (fun _ => none) 0 (some st0_3)) 1 (some st1_4))))))), (st0_3, .inl (cs 0, 96048, .inl q0_9))]) (xV (As := [.ref mtr, .ref ms]) (rest := []) C (c_X12_puts_m l D cs hm ms mkp mtr mas mso mon mot man mst msm mtb mti mfr mbn mbs mde maa mab mba mbb mtr ms freshS freshS) kX12_148 hP hD [11, 8, 12] rfl (by decide +kernel) 0 rfl rfl rfl ⟨Nat.le_of_ble_eq_true rfl, Nat.le_of_ble_eq_true rfl⟩ rfl hl.1 rfl (Nat.le_of_ble_eq_true rfl) dX12_counted_131 ⟨Nat.le_of_ble_eq_true rfl, Nat.le_of_ble_eq_true rfl⟩) hP hD hS hA [11, 8, 12] [0, 1, 2, 3, 4, 5, 6, 7, 9, 10] rfl rfl (by decide +kernel) (by decide +kernel) ?_
    clear hP hD hS
    try clear locs
    try clear H
    intro u_22 H locs hw_r_21 hP hD hS
    refine W.widen (k := 6) (n := 212482) (Nat.le_of_ble_eq_true rfl) (Nat.le_of_ble_eq_true rfl) ?_
    replace hP : va_P D vwCl [(msm, .inl (cs 0, 2, .inl (smF2 (nI 1) (nI 1)))), (mtb, .inl (cs 5, 2, .inr (.inr (.inr (.inr (va_up (va_up (fun _ => none) 0 (some tb0_5)) 1 (some tb1_6))))))), (mti, .inl (cs 6, 2, .inr (.inr (.inr (.inr (va_up (va_up (fun _ => none) 0 (some ti0_7)) 1 (some ti1_8))))))), (st1_4, .inl (cs 0, 96048, .inl q1_10)), (tb0_5, .inl (cs 0, 8192, .inl tc0_11)), (tb1_6, .inl (cs 0, 8192, .inl tc1_12)), (ti0_7, .inl (cs 1, 2001, .inr (.inl u0_13))), (ti1_8, .inl (cs 1, 2001, .inr (.inl u1_14))), (mst, .inl (cs 5, 2, .inr (.inr (.inr (.inr (va_up (va_up (fun _ => none) 0 (some st0_3)) 1 (some st1_4))))))), (st0_3, .inl (cs 0, 96048, .inl q0_9)), (hm, .inr (12, [.ref ms, .ref mkp, .int (nI 0), .ref mtr, .int (nI 4), .int (nI 2), .int (nI 2), .int (nI 3), .int (nI 2), .int (nI 1), .ref mas, .int (nI 0), .int (nI 0), .int (nI 0), .ref mso, .ref mon, .ref mot, .ref man, .int (nI 0), .int (nI 0), .ref mst, .ref msm, .ref mtb, .ref mti, .ref mfr, .ref mbn, .ref mbs, .ref mde, .int (nI 0), .int (nI 0), .int (nI 0), .int (nI 0), .long 0, .long 0, .ref maa, .ref mab, .ref mba, .ref mbb])), (mtr, .inl (cs 0, 288, .inl freshS)), (ms, .inl (cs 0, 288, .inl freshS))] H := hP
    replace hD : va_D A [(msm, .inl (cs 0, 2, .inl (smF2 (nI 1) (nI 1)))), (mtb, .inl (cs 5, 2, .inr (.inr (.inr (.inr (va_up (va_up (fun _ => none) 0 (some tb0_5)) 1 (some tb1_6))))))), (mti, .inl (cs 6, 2, .inr (.inr (.inr (.inr (va_up (va_up (fun _ => none) 0 (some ti0_7)) 1 (some ti1_8))))))), (st1_4, .inl (cs 0, 96048, .inl q1_10)), (tb0_5, .inl (cs 0, 8192, .inl tc0_11)), (tb1_6, .inl (cs 0, 8192, .inl tc1_12)), (ti0_7, .inl (cs 1, 2001, .inr (.inl u0_13))), (ti1_8, .inl (cs 1, 2001, .inr (.inl u1_14))), (mst, .inl (cs 5, 2, .inr (.inr (.inr (.inr (va_up (va_up (fun _ => none) 0 (some st0_3)) 1 (some st1_4))))))), (st0_3, .inl (cs 0, 96048, .inl q0_9)), (hm, .inr (12, [.ref ms, .ref mkp, .int (nI 0), .ref mtr, .int (nI 4), .int (nI 2), .int (nI 2), .int (nI 3), .int (nI 2), .int (nI 1), .ref mas, .int (nI 0), .int (nI 0), .int (nI 0), .ref mso, .ref mon, .ref mot, .ref man, .int (nI 0), .int (nI 0), .ref mst, .ref msm, .ref mtb, .ref mti, .ref mfr, .ref mbn, .ref mbs, .ref mde, .int (nI 0), .int (nI 0), .int (nI 0), .int (nI 0), .long 0, .long 0, .ref maa, .ref mab, .ref mba, .ref mbb])), (mtr, .inl (cs 0, 288, .inl freshS)), (ms, .inl (cs 0, 288, .inl freshS))] := hD
    refine lv_lload hx hb dX12_counted_134 (lv_at hl 2 rfl) ?_
    exact xretl C () rfl (xP_map hP [] rfl) (hD.sub [] (by decide +kernel) rfl) hS (Nat.le_of_ble_eq_true rfl) (Nat.le_of_ble_eq_true rfl) dX12_counted_136
  · -- split
    replace hP : va_P D vwCl [(hm, .inr (12, [.ref ms, .ref mkp, .int (nI 0), .ref mtr, .int (nI 4), .int (nI 2), .int (nI 2), .int (nI 3), .int (nI 2), .int (nI 1), .ref mas, .int (nI 0), .int (nI 0), .int (nI 0), .ref mso, .ref mon, .ref mot, .ref man, .int (nI 0), .int (nI 0), .ref mst, .ref msm, .ref mtb, .ref mti, .ref mfr, .ref mbn, .ref mbs, .ref mde, .int (nI 0), .int (nI 0), .int (nI 0), .int (nI 0), .long 0, .long 0, .ref maa, .ref mab, .ref mba, .ref mbb])), (ms, .inl (cs 0, 288, .inl freshS)), (mtr, .inl (cs 0, 288, .inl freshS)), (msm, .inl (cs 0, 2, .inl (smF2 (nI 1) (nI 1)))), (mst, .inl (cs 5, 2, .inr (.inr (.inr (.inr (va_up (va_up (fun _ => none) 0 (some st0_3)) 1 (some st1_4))))))), (mtb, .inl (cs 5, 2, .inr (.inr (.inr (.inr (va_up (va_up (fun _ => none) 0 (some tb0_5)) 1 (some tb1_6))))))), (mti, .inl (cs 6, 2, .inr (.inr (.inr (.inr (va_up (va_up (fun _ => none) 0 (some ti0_7)) 1 (some ti1_8))))))), (st0_3, .inl (cs 0, 96048, .inl q0_9)), (st1_4, .inl (cs 0, 96048, .inl q1_10)), (tb0_5, .inl (cs 0, 8192, .inl tc0_11)), (tb1_6, .inl (cs 0, 8192, .inl tc1_12)), (ti0_7, .inl (cs 1, 2001, .inr (.inl u0_13))), (ti1_8, .inl (cs 1, 2001, .inr (.inl u1_14)))] H := hP
    replace hD : va_D A [(hm, .inr (12, [.ref ms, .ref mkp, .int (nI 0), .ref mtr, .int (nI 4), .int (nI 2), .int (nI 2), .int (nI 3), .int (nI 2), .int (nI 1), .ref mas, .int (nI 0), .int (nI 0), .int (nI 0), .ref mso, .ref mon, .ref mot, .ref man, .int (nI 0), .int (nI 0), .ref mst, .ref msm, .ref mtb, .ref mti, .ref mfr, .ref mbn, .ref mbs, .ref mde, .int (nI 0), .int (nI 0), .int (nI 0), .int (nI 0), .long 0, .long 0, .ref maa, .ref mab, .ref mba, .ref mbb])), (ms, .inl (cs 0, 288, .inl freshS)), (mtr, .inl (cs 0, 288, .inl freshS)), (msm, .inl (cs 0, 2, .inl (smF2 (nI 1) (nI 1)))), (mst, .inl (cs 5, 2, .inr (.inr (.inr (.inr (va_up (va_up (fun _ => none) 0 (some st0_3)) 1 (some st1_4))))))), (mtb, .inl (cs 5, 2, .inr (.inr (.inr (.inr (va_up (va_up (fun _ => none) 0 (some tb0_5)) 1 (some tb1_6))))))), (mti, .inl (cs 6, 2, .inr (.inr (.inr (.inr (va_up (va_up (fun _ => none) 0 (some ti0_7)) 1 (some ti1_8))))))), (st0_3, .inl (cs 0, 96048, .inl q0_9)), (st1_4, .inl (cs 0, 96048, .inl q1_10)), (tb0_5, .inl (cs 0, 8192, .inl tc0_11)), (tb1_6, .inl (cs 0, 8192, .inl tc1_12)), (ti0_7, .inl (cs 1, 2001, .inr (.inl u0_13))), (ti1_8, .inl (cs 1, 2001, .inr (.inl u1_14)))] := hD
    refine lv_istore (lv' := [(4, .int (nI 1)), (0, .ref hm), (1, .int (nI t)), (2, .int (nI 2)), (3, .int (nI 0))]) hx hb dX12_counted_5 hl (by decide) rfl ?_
    clear hl
    try clear ls
    intro ls hl
    refine lv_iload hx hb dX12_counted_7 (lv_at hl 0 rfl) ?_
    refine lv_if_ge (tgt := 16) hx hb dX12_counted_9 (by decide) (fun _ => ?_) (fun c => absurd (by decide) c)
    refine lv_aload_n hx hb dX12_counted_16 rfl (lv_at hl 1 rfl) ?_
    refine lv_aload_n hx hb dX12_counted_17 rfl (lv_at hl 1 rfl) ?_
    refine xget C hP 0 rfl rfl zuX12 0 (by decide) zw5_213 rfl dX12_counted_18 ?_
    refine lv_aload_n hx hb dX12_counted_21 rfl (lv_at hl 1 rfl) ?_
    refine xget C hP 0 rfl rfl zuX12 3 (by decide) zw5_216 rfl dX12_counted_22 ?_
    refine xv (wr := [(msm, .inl (cs 0, 2, .inl (smF2 (nI 1) (nI 1)))), (mst, .inl (cs 5, 2, .inr (.inr (.inr (.inr (va_up (va_up (fun _ => none) 0 (some st0_3)) 1 (some st1_4))))))), (mtb, .inl (cs 5, 2, .inr (.inr (.inr (.inr (va_up (va_up (fun _ => none) 0 (some tb0_5)) 1 (some tb1_6))))))), (mti, .inl (cs 6, 2, .inr (.inr (.inr (.inr (va_up (va_up (fun _ => none) 0 (some ti0_7)) 1 (some ti1_8))))))), (st0_3, .inl (cs 0, 96048, .inl q0_9)), (st1_4, .inl (cs 0, 96048, .inl q1_10)), (tb0_5, .inl (cs 0, 8192, .inl tc0_11)), (tb1_6, .inl (cs 0, 8192, .inl tc1_12)), (ti0_7, .inl (cs 1, 2001, .inr (.inl u0_13))), (ti1_8, .inl (cs 1, 2001, .inr (.inl u1_14)))]) (xV (As := [.ref ms, .ref mtr]) (rest := []) C (c_X12_puts_m l D cs hm ms mkp mtr mas mso mon mot man mst msm mtb mti mfr mbn mbs mde maa mab mba mbb ms mtr freshS freshS) kX12_148 hP hD [0, 1, 2] rfl (by decide +kernel) 0 rfl rfl rfl ⟨Nat.le_of_ble_eq_true rfl, Nat.le_of_ble_eq_true rfl⟩ rfl hl.1 rfl (Nat.le_of_ble_eq_true rfl) dX12_counted_25 ⟨Nat.le_of_ble_eq_true rfl, Nat.le_of_ble_eq_true rfl⟩) hP hD hS hA [0, 1, 2] [3, 4, 5, 6, 7, 8, 9, 10, 11, 12] rfl rfl (by decide +kernel) (by decide +kernel) ?_
    clear hP hD hS
    try clear locs
    try clear H
    intro u_24 H locs hw_r_23 hP hD hS
    refine W.widen (k := 6) (n := 212482) (Nat.le_of_ble_eq_true rfl) (Nat.le_of_ble_eq_true rfl) ?_
    replace hP : va_P D vwCl [(msm, .inl (cs 0, 2, .inl (smF2 (nI 1) (nI 1)))), (mst, .inl (cs 5, 2, .inr (.inr (.inr (.inr (va_up (va_up (fun _ => none) 0 (some st0_3)) 1 (some st1_4))))))), (mtb, .inl (cs 5, 2, .inr (.inr (.inr (.inr (va_up (va_up (fun _ => none) 0 (some tb0_5)) 1 (some tb1_6))))))), (mti, .inl (cs 6, 2, .inr (.inr (.inr (.inr (va_up (va_up (fun _ => none) 0 (some ti0_7)) 1 (some ti1_8))))))), (st0_3, .inl (cs 0, 96048, .inl q0_9)), (st1_4, .inl (cs 0, 96048, .inl q1_10)), (tb0_5, .inl (cs 0, 8192, .inl tc0_11)), (tb1_6, .inl (cs 0, 8192, .inl tc1_12)), (ti0_7, .inl (cs 1, 2001, .inr (.inl u0_13))), (ti1_8, .inl (cs 1, 2001, .inr (.inl u1_14))), (hm, .inr (12, [.ref ms, .ref mkp, .int (nI 0), .ref mtr, .int (nI 4), .int (nI 2), .int (nI 2), .int (nI 3), .int (nI 2), .int (nI 1), .ref mas, .int (nI 0), .int (nI 0), .int (nI 0), .ref mso, .ref mon, .ref mot, .ref man, .int (nI 0), .int (nI 0), .ref mst, .ref msm, .ref mtb, .ref mti, .ref mfr, .ref mbn, .ref mbs, .ref mde, .int (nI 0), .int (nI 0), .int (nI 0), .int (nI 0), .long 0, .long 0, .ref maa, .ref mab, .ref mba, .ref mbb])), (ms, .inl (cs 0, 288, .inl freshS)), (mtr, .inl (cs 0, 288, .inl freshS))] H := hP
    replace hD : va_D A [(msm, .inl (cs 0, 2, .inl (smF2 (nI 1) (nI 1)))), (mst, .inl (cs 5, 2, .inr (.inr (.inr (.inr (va_up (va_up (fun _ => none) 0 (some st0_3)) 1 (some st1_4))))))), (mtb, .inl (cs 5, 2, .inr (.inr (.inr (.inr (va_up (va_up (fun _ => none) 0 (some tb0_5)) 1 (some tb1_6))))))), (mti, .inl (cs 6, 2, .inr (.inr (.inr (.inr (va_up (va_up (fun _ => none) 0 (some ti0_7)) 1 (some ti1_8))))))), (st0_3, .inl (cs 0, 96048, .inl q0_9)), (st1_4, .inl (cs 0, 96048, .inl q1_10)), (tb0_5, .inl (cs 0, 8192, .inl tc0_11)), (tb1_6, .inl (cs 0, 8192, .inl tc1_12)), (ti0_7, .inl (cs 1, 2001, .inr (.inl u0_13))), (ti1_8, .inl (cs 1, 2001, .inr (.inl u1_14))), (hm, .inr (12, [.ref ms, .ref mkp, .int (nI 0), .ref mtr, .int (nI 4), .int (nI 2), .int (nI 2), .int (nI 3), .int (nI 2), .int (nI 1), .ref mas, .int (nI 0), .int (nI 0), .int (nI 0), .ref mso, .ref mon, .ref mot, .ref man, .int (nI 0), .int (nI 0), .ref mst, .ref msm, .ref mtb, .ref mti, .ref mfr, .ref mbn, .ref mbs, .ref mde, .int (nI 0), .int (nI 0), .int (nI 0), .int (nI 0), .long 0, .long 0, .ref maa, .ref mab, .ref mba, .ref mbb])), (ms, .inl (cs 0, 288, .inl freshS)), (mtr, .inl (cs 0, 288, .inl freshS))] := hD
    refine lv_lconst (v := 0) hx hb dX12_counted_28 (by decide) ?_
    refine lv_lstore (lv' := [(5, .long 0), (4, .int (nI 1)), (0, .ref hm), (1, .int (nI t)), (2, .int (nI 2)), (3, .int (nI 0))]) hx hb dX12_counted_29 hl (by decide) rfl ?_
    clear hl
    try clear ls
    intro ls hl
    refine lv_iconst (v := nI 0) hx hb dX12_counted_31 (by decide) ?_
    refine lv_istore (lv' := [(7, .int (nI 0)), (5, .long 0), (4, .int (nI 1)), (0, .ref hm), (1, .int (nI t)), (2, .int (nI 2)), (3, .int (nI 0))]) hx hb dX12_counted_32 hl (by decide) rfl ?_
    clear hl
    try clear ls
    intro ls hl
    refine lv_iload hx hb dX12_counted_34 (lv_at hl 0 rfl) ?_
    refine lv_aload_n hx hb dX12_counted_36 rfl (lv_at hl 3 rfl) ?_
    refine xget C hP 10 rfl rfl zuX12 21 (by decide) zw5_234 rfl dX12_counted_37 ?_
    refine lv_iload hx hb dX12_counted_40 (lv_at hl 2 rfl) ?_
    refine xiald C hP 0 rfl 1 rfl (by decide) (by decide) dX12_counted_42 ?_
    refine lv_topi (nm_r (e' := nI 1) (by decide) ?_)
    refine lv_icmp_ge (tgt := 122) hx hb dX12_counted_43 (by decide) (fun c => absurd c (by decide)) (fun _ => ?_)
    refine lv_aload_n hx hb dX12_counted_46 rfl (lv_at hl 3 rfl) ?_
    refine lv_iload hx hb dX12_counted_47 (lv_at hl 2 rfl) ?_
    refine lv_iload hx hb dX12_counted_49 (lv_at hl 0 rfl) ?_
    refine xv (wr := [(msm, .inl (cs 0, 2, .inl (smF2 (nI 1) (nI 1)))), (mtb, .inl (cs 5, 2, .inr (.inr (.inr (.inr (va_up (va_up (fun _ => none) 0 (some tb0_5)) 1 (some tb1_6))))))), (mti, .inl (cs 6, 2, .inr (.inr (.inr (.inr (va_up (va_up (fun _ => none) 0 (some ti0_7)) 1 (some ti1_8))))))), (st0_3, .inl (cs 0, 96048, .inl q0_9)), (tb0_5, .inl (cs 0, 8192, .inl tc0_11)), (tb1_6, .inl (cs 0, 8192, .inl tc1_12)), (ti0_7, .inl (cs 1, 2001, .inr (.inl u0_13))), (ti1_8, .inl (cs 1, 2001, .inr (.inl u1_14))), (mtr, .inl (cs 0, 288, .inl freshS))]) (xV (As := [.int (nI 1), .int (nI 0)]) (rest := []) C (c_X12_brings_1 l D cs hm ms mkp mtr mas mso mon mot man mst msm mtb mti mfr mbn mbs mde maa mab mba mbb st1_4 (va_up (va_up (fun _ => none) 0 (some st0_3)) 1 (some st1_4)) q1_10 rfl hq) kX12_203 hP hD [10, 11, 1, 5] rfl (by decide +kernel) 0 rfl rfl rfl ⟨Nat.le_of_ble_eq_true rfl, Nat.le_of_ble_eq_true rfl⟩ rfl hl.1 rfl (Nat.le_of_ble_eq_true rfl) dX12_counted_51 ⟨Nat.le_of_ble_eq_true rfl, Nat.le_of_ble_eq_true rfl⟩) hP hD hS hA [10, 11, 1, 5] [0, 2, 3, 4, 6, 7, 8, 9, 12] rfl rfl (by decide +kernel) (by decide +kernel) ?_
    clear hP hD hS
    try clear locs
    try clear H
    intro u_26 H locs hw_r_25 hP hD hS
    refine W.widen (k := 6) (n := 212482) (Nat.le_of_ble_eq_true rfl) (Nat.le_of_ble_eq_true rfl) ?_
    replace hP : va_P D vwCl [(msm, .inl (cs 0, 2, .inl (smF2 (nI 1) (nI 1)))), (mtb, .inl (cs 5, 2, .inr (.inr (.inr (.inr (va_up (va_up (fun _ => none) 0 (some tb0_5)) 1 (some tb1_6))))))), (mti, .inl (cs 6, 2, .inr (.inr (.inr (.inr (va_up (va_up (fun _ => none) 0 (some ti0_7)) 1 (some ti1_8))))))), (st0_3, .inl (cs 0, 96048, .inl q0_9)), (tb0_5, .inl (cs 0, 8192, .inl tc0_11)), (tb1_6, .inl (cs 0, 8192, .inl tc1_12)), (ti0_7, .inl (cs 1, 2001, .inr (.inl u0_13))), (ti1_8, .inl (cs 1, 2001, .inr (.inl u1_14))), (mtr, .inl (cs 0, 288, .inl freshS)), (hm, .inr (12, [.ref ms, .ref mkp, .int (nI 0), .ref mtr, .int (nI 4), .int (nI 2), .int (nI 2), .int (nI 3), .int (nI 2), .int (nI 1), .ref mas, .int (nI 0), .int (nI 0), .int (nI 0), .ref mso, .ref mon, .ref mot, .ref man, .int (nI 0), .int (nI 0), .ref mst, .ref msm, .ref mtb, .ref mti, .ref mfr, .ref mbn, .ref mbs, .ref mde, .int (nI 0), .int (nI 0), .int (nI 0), .int (nI 0), .long 0, .long 0, .ref maa, .ref mab, .ref mba, .ref mbb])), (ms, .inl (cs 0, 288, .inl freshS)), (mst, .inl (cs 5, 2, .inr (.inr (.inr (.inr (va_up (va_up (fun _ => none) 0 (some st0_3)) 1 (some st1_4))))))), (st1_4, .inl (cs 0, 96048, .inl q1_10))] H := hP
    replace hD : va_D A [(msm, .inl (cs 0, 2, .inl (smF2 (nI 1) (nI 1)))), (mtb, .inl (cs 5, 2, .inr (.inr (.inr (.inr (va_up (va_up (fun _ => none) 0 (some tb0_5)) 1 (some tb1_6))))))), (mti, .inl (cs 6, 2, .inr (.inr (.inr (.inr (va_up (va_up (fun _ => none) 0 (some ti0_7)) 1 (some ti1_8))))))), (st0_3, .inl (cs 0, 96048, .inl q0_9)), (tb0_5, .inl (cs 0, 8192, .inl tc0_11)), (tb1_6, .inl (cs 0, 8192, .inl tc1_12)), (ti0_7, .inl (cs 1, 2001, .inr (.inl u0_13))), (ti1_8, .inl (cs 1, 2001, .inr (.inl u1_14))), (mtr, .inl (cs 0, 288, .inl freshS)), (hm, .inr (12, [.ref ms, .ref mkp, .int (nI 0), .ref mtr, .int (nI 4), .int (nI 2), .int (nI 2), .int (nI 3), .int (nI 2), .int (nI 1), .ref mas, .int (nI 0), .int (nI 0), .int (nI 0), .ref mso, .ref mon, .ref mot, .ref man, .int (nI 0), .int (nI 0), .ref mst, .ref msm, .ref mtb, .ref mti, .ref mfr, .ref mbn, .ref mbs, .ref mde, .int (nI 0), .int (nI 0), .int (nI 0), .int (nI 0), .long 0, .long 0, .ref maa, .ref mab, .ref mba, .ref mbb])), (ms, .inl (cs 0, 288, .inl freshS)), (mst, .inl (cs 5, 2, .inr (.inr (.inr (.inr (va_up (va_up (fun _ => none) 0 (some st0_3)) 1 (some st1_4))))))), (st1_4, .inl (cs 0, 96048, .inl q1_10))] := hD
    refine lv_iload_n hx hb dX12_counted_54 rfl (lv_at hl 5 rfl) ?_
    refine lv_iconst (v := nI 1) hx hb dX12_counted_55 (by decide) ?_
    refine lv_icmp_ne (tgt := 66) hx hb dX12_counted_56 (by decide) (fun _ => ?_) (fun c => absurd c (by decide))
    refine lv_iload_n hx hb dX12_counted_66 rfl (lv_at hl 5 rfl) ?_
    refine lv_iconst (v := nI 2) hx hb dX12_counted_67 (by decide) ?_
    refine lv_icmp_ne (tgt := 78) hx hb dX12_counted_68 (by decide) (fun c => absurd (by decide) c) (fun _ => ?_)
    refine lv_aload_n hx hb dX12_counted_71 rfl (lv_at hl 3 rfl) ?_
    refine xi (wr := [(msm, .inl (cs 0, 2, .inl (smF2 (nI 1) (nI 1)))), (mtb, .inl (cs 5, 2, .inr (.inr (.inr (.inr (va_up (va_up (fun _ => none) 0 (some tb0_5)) 1 (some tb1_6))))))), (mti, .inl (cs 6, 2, .inr (.inr (.inr (.inr (va_up (va_up (fun _ => none) 0 (some ti0_7)) 1 (some ti1_8))))))), (st0_3, .inl (cs 0, 96048, .inl q0_9)), (tb0_5, .inl (cs 0, 8192, .inl tc0_11)), (tb1_6, .inl (cs 0, 8192, .inl tc1_12)), (ti0_7, .inl (cs 1, 2001, .inr (.inl u0_13))), (ti1_8, .inl (cs 1, 2001, .inr (.inl u1_14))), (mtr, .inl (cs 0, 288, .inl freshS)), (mst, .inl (cs 5, 2, .inr (.inr (.inr (.inr (va_up (va_up (fun _ => none) 0 (some st0_3)) 1 (some st1_4))))))), (st1_4, .inl (cs 0, 96048, .inl q1_10))]) (xV (As := []) (rest := []) C (c_X12_areAgreed_z l D cs hm ms mkp mtr mas mso mon mot man mst msm mtb mti mfr mbn mbs mde maa mab mba mbb) kX12_215 hP hD [9, 10] rfl (by decide +kernel) 0 rfl rfl rfl ⟨Nat.le_of_ble_eq_true rfl, Nat.le_of_ble_eq_true rfl⟩ rfl hl.1 rfl (Nat.le_of_ble_eq_true rfl) dX12_counted_72 ⟨Nat.le_of_ble_eq_true rfl, Nat.le_of_ble_eq_true rfl⟩) hP hD hS hA [9, 10] [0, 1, 2, 3, 4, 5, 6, 7, 8, 11, 12] rfl rfl (by decide +kernel) (by decide +kernel) ?_
    clear hP hD hS
    try clear locs
    try clear H
    intro r_27 u_28 H locs hw_r_27 hP hD hS
    have hw_r_27 : r_27 = nI 0 := hw_r_27
    refine W.widen (k := 6) (n := 212482) (Nat.le_of_ble_eq_true rfl) (Nat.le_of_ble_eq_true rfl) ?_
    replace hP : va_P D vwCl [(msm, .inl (cs 0, 2, .inl (smF2 (nI 1) (nI 1)))), (mtb, .inl (cs 5, 2, .inr (.inr (.inr (.inr (va_up (va_up (fun _ => none) 0 (some tb0_5)) 1 (some tb1_6))))))), (mti, .inl (cs 6, 2, .inr (.inr (.inr (.inr (va_up (va_up (fun _ => none) 0 (some ti0_7)) 1 (some ti1_8))))))), (st0_3, .inl (cs 0, 96048, .inl q0_9)), (tb0_5, .inl (cs 0, 8192, .inl tc0_11)), (tb1_6, .inl (cs 0, 8192, .inl tc1_12)), (ti0_7, .inl (cs 1, 2001, .inr (.inl u0_13))), (ti1_8, .inl (cs 1, 2001, .inr (.inl u1_14))), (mtr, .inl (cs 0, 288, .inl freshS)), (mst, .inl (cs 5, 2, .inr (.inr (.inr (.inr (va_up (va_up (fun _ => none) 0 (some st0_3)) 1 (some st1_4))))))), (st1_4, .inl (cs 0, 96048, .inl q1_10)), (hm, .inr (12, [.ref ms, .ref mkp, .int (nI 0), .ref mtr, .int (nI 4), .int (nI 2), .int (nI 2), .int (nI 3), .int (nI 2), .int (nI 1), .ref mas, .int (nI 0), .int (nI 0), .int (nI 0), .ref mso, .ref mon, .ref mot, .ref man, .int (nI 0), .int (nI 0), .ref mst, .ref msm, .ref mtb, .ref mti, .ref mfr, .ref mbn, .ref mbs, .ref mde, .int (nI 0), .int (nI 0), .int (nI 0), .int (nI 0), .long 0, .long 0, .ref maa, .ref mab, .ref mba, .ref mbb])), (ms, .inl (cs 0, 288, .inl freshS))] H := hP
    replace hD : va_D A [(msm, .inl (cs 0, 2, .inl (smF2 (nI 1) (nI 1)))), (mtb, .inl (cs 5, 2, .inr (.inr (.inr (.inr (va_up (va_up (fun _ => none) 0 (some tb0_5)) 1 (some tb1_6))))))), (mti, .inl (cs 6, 2, .inr (.inr (.inr (.inr (va_up (va_up (fun _ => none) 0 (some ti0_7)) 1 (some ti1_8))))))), (st0_3, .inl (cs 0, 96048, .inl q0_9)), (tb0_5, .inl (cs 0, 8192, .inl tc0_11)), (tb1_6, .inl (cs 0, 8192, .inl tc1_12)), (ti0_7, .inl (cs 1, 2001, .inr (.inl u0_13))), (ti1_8, .inl (cs 1, 2001, .inr (.inl u1_14))), (mtr, .inl (cs 0, 288, .inl freshS)), (mst, .inl (cs 5, 2, .inr (.inr (.inr (.inr (va_up (va_up (fun _ => none) 0 (some st0_3)) 1 (some st1_4))))))), (st1_4, .inl (cs 0, 96048, .inl q1_10)), (hm, .inr (12, [.ref ms, .ref mkp, .int (nI 0), .ref mtr, .int (nI 4), .int (nI 2), .int (nI 2), .int (nI 3), .int (nI 2), .int (nI 1), .ref mas, .int (nI 0), .int (nI 0), .int (nI 0), .ref mso, .ref mon, .ref mot, .ref man, .int (nI 0), .int (nI 0), .ref mst, .ref msm, .ref mtb, .ref mti, .ref mfr, .ref mbn, .ref mbs, .ref mde, .int (nI 0), .int (nI 0), .int (nI 0), .int (nI 0), .long 0, .long 0, .ref maa, .ref mab, .ref mba, .ref mbb])), (ms, .inl (cs 0, 288, .inl freshS))] := hD
    subst hw_r_27
    refine lv_goto (tgt := 94) hx hb dX12_counted_75 (by decide) ?_
    refine lv_istore (lv' := [(8, .int (nI 0)), (7, .int (nI 0)), (5, .long 0), (4, .int (nI 1)), (0, .ref hm), (1, .int (nI t)), (2, .int (nI 2)), (3, .int (nI 0))]) hx hb dX12_counted_94 hl (by decide) rfl ?_
    clear hl
    try clear ls
    intro ls hl
    refine lv_iload hx hb dX12_counted_96 (lv_at hl 0 rfl) ?_
    refine lv_if_eq (tgt := 116) hx hb dX12_counted_98 (by decide) (fun _ => ?_) (fun c => absurd (by decide) c)
    refine lv_iinc (v := nI 1) (lv' := [(7, .int (nI 1)), (8, .int (nI 0)), (5, .long 0), (4, .int (nI 1)), (0, .ref hm), (1, .int (nI t)), (2, .int (nI 2)), (3, .int (nI 0))]) hx hb dX12_counted_116 hl (k := 1) rfl (by decide) (by decide) rfl ?_
    clear hl
    try clear ls
    intro ls hl
    refine lv_goto (tgt := 34) hx hb dX12_counted_119 (by decide) ?_
    refine lv_iload hx hb dX12_counted_34 (lv_at hl 0 rfl) ?_
    refine lv_aload_n hx hb dX12_counted_36 rfl (lv_at hl 4 rfl) ?_
    refine xget C hP 11 rfl rfl zuX12 21 (by decide) zw5_234 rfl dX12_counted_37 ?_
    refine lv_iload hx hb dX12_counted_40 (lv_at hl 3 rfl) ?_
    refine xiald C hP 0 rfl 1 rfl (by decide) (by decide) dX12_counted_42 ?_
    refine lv_topi (nm_r (e' := nI 1) (by decide) ?_)
    refine lv_icmp_ge (tgt := 122) hx hb dX12_counted_43 (by decide) (fun _ => ?_) (fun c => absurd (by decide) c)
    refine lv_aload_n hx hb dX12_counted_122 rfl (lv_at hl 4 rfl) ?_
    refine lv_aload_n hx hb dX12_counted_123 rfl (lv_at hl 4 rfl) ?_
    refine xget C hP 11 rfl rfl zuX12 3 (by decide) zw5_216 rfl dX12_counted_124 ?_
    refine lv_aload_n hx hb dX12_counted_127 rfl (lv_at hl 4 rfl) ?_
    refine xget C hP 11 rfl rfl zuX12 0 (by decide) zw5_213 rfl dX12_counted_128 ?_
    refine xv (wr := [(msm, .inl (cs 0, 2, .inl (smF2 (nI 1) (nI 1)))), (mtb, .inl (cs 5, 2, .inr (.inr (.inr (.inr (va_up (va_up (fun _ => none) 0 (some tb0_5)) 1 (some tb1_6))))))), (mti, .inl (cs 6, 2, .inr (.inr (.inr (.inr (va_up (va_up (fun _ => none) 0 (some ti0_7)) 1 (some ti1_8))))))), (st0_3, .inl (cs 0, 96048, .inl q0_9)), (tb0_5, .inl (cs 0, 8192, .inl tc0_11)), (tb1_6, .inl (cs 0, 8192, .inl tc1_12)), (ti0_7, .inl (cs 1, 2001, .inr (.inl u0_13))), (ti1_8, .inl (cs 1, 2001, .inr (.inl u1_14))), (mst, .inl (cs 5, 2, .inr (.inr (.inr (.inr (va_up (va_up (fun _ => none) 0 (some st0_3)) 1 (some st1_4))))))), (st1_4, .inl (cs 0, 96048, .inl q1_10))]) (xV (As := [.ref mtr, .ref ms]) (rest := []) C (c_X12_puts_m l D cs hm ms mkp mtr mas mso mon mot man mst msm mtb mti mfr mbn mbs mde maa mab mba mbb mtr ms freshS freshS) kX12_148 hP hD [11, 8, 12] rfl (by decide +kernel) 0 rfl rfl rfl ⟨Nat.le_of_ble_eq_true rfl, Nat.le_of_ble_eq_true rfl⟩ rfl hl.1 rfl (Nat.le_of_ble_eq_true rfl) dX12_counted_131 ⟨Nat.le_of_ble_eq_true rfl, Nat.le_of_ble_eq_true rfl⟩) hP hD hS hA [11, 8, 12] [0, 1, 2, 3, 4, 5, 6, 7, 9, 10] rfl rfl (by decide +kernel) (by decide +kernel) ?_
    clear hP hD hS
    try clear locs
    try clear H
    intro u_30 H locs hw_r_29 hP hD hS
    refine W.widen (k := 6) (n := 212482) (Nat.le_of_ble_eq_true rfl) (Nat.le_of_ble_eq_true rfl) ?_
    replace hP : va_P D vwCl [(msm, .inl (cs 0, 2, .inl (smF2 (nI 1) (nI 1)))), (mtb, .inl (cs 5, 2, .inr (.inr (.inr (.inr (va_up (va_up (fun _ => none) 0 (some tb0_5)) 1 (some tb1_6))))))), (mti, .inl (cs 6, 2, .inr (.inr (.inr (.inr (va_up (va_up (fun _ => none) 0 (some ti0_7)) 1 (some ti1_8))))))), (st0_3, .inl (cs 0, 96048, .inl q0_9)), (tb0_5, .inl (cs 0, 8192, .inl tc0_11)), (tb1_6, .inl (cs 0, 8192, .inl tc1_12)), (ti0_7, .inl (cs 1, 2001, .inr (.inl u0_13))), (ti1_8, .inl (cs 1, 2001, .inr (.inl u1_14))), (mst, .inl (cs 5, 2, .inr (.inr (.inr (.inr (va_up (va_up (fun _ => none) 0 (some st0_3)) 1 (some st1_4))))))), (st1_4, .inl (cs 0, 96048, .inl q1_10)), (hm, .inr (12, [.ref ms, .ref mkp, .int (nI 0), .ref mtr, .int (nI 4), .int (nI 2), .int (nI 2), .int (nI 3), .int (nI 2), .int (nI 1), .ref mas, .int (nI 0), .int (nI 0), .int (nI 0), .ref mso, .ref mon, .ref mot, .ref man, .int (nI 0), .int (nI 0), .ref mst, .ref msm, .ref mtb, .ref mti, .ref mfr, .ref mbn, .ref mbs, .ref mde, .int (nI 0), .int (nI 0), .int (nI 0), .int (nI 0), .long 0, .long 0, .ref maa, .ref mab, .ref mba, .ref mbb])), (mtr, .inl (cs 0, 288, .inl freshS)), (ms, .inl (cs 0, 288, .inl freshS))] H := hP
    replace hD : va_D A [(msm, .inl (cs 0, 2, .inl (smF2 (nI 1) (nI 1)))), (mtb, .inl (cs 5, 2, .inr (.inr (.inr (.inr (va_up (va_up (fun _ => none) 0 (some tb0_5)) 1 (some tb1_6))))))), (mti, .inl (cs 6, 2, .inr (.inr (.inr (.inr (va_up (va_up (fun _ => none) 0 (some ti0_7)) 1 (some ti1_8))))))), (st0_3, .inl (cs 0, 96048, .inl q0_9)), (tb0_5, .inl (cs 0, 8192, .inl tc0_11)), (tb1_6, .inl (cs 0, 8192, .inl tc1_12)), (ti0_7, .inl (cs 1, 2001, .inr (.inl u0_13))), (ti1_8, .inl (cs 1, 2001, .inr (.inl u1_14))), (mst, .inl (cs 5, 2, .inr (.inr (.inr (.inr (va_up (va_up (fun _ => none) 0 (some st0_3)) 1 (some st1_4))))))), (st1_4, .inl (cs 0, 96048, .inl q1_10)), (hm, .inr (12, [.ref ms, .ref mkp, .int (nI 0), .ref mtr, .int (nI 4), .int (nI 2), .int (nI 2), .int (nI 3), .int (nI 2), .int (nI 1), .ref mas, .int (nI 0), .int (nI 0), .int (nI 0), .ref mso, .ref mon, .ref mot, .ref man, .int (nI 0), .int (nI 0), .ref mst, .ref msm, .ref mtb, .ref mti, .ref mfr, .ref mbn, .ref mbs, .ref mde, .int (nI 0), .int (nI 0), .int (nI 0), .int (nI 0), .long 0, .long 0, .ref maa, .ref mab, .ref mba, .ref mbb])), (mtr, .inl (cs 0, 288, .inl freshS)), (ms, .inl (cs 0, 288, .inl freshS))] := hD
    refine lv_lload hx hb dX12_counted_134 (lv_at hl 2 rfl) ?_
    exact xretl C () rfl (xP_map hP [] rfl) (hD.sub [] (by decide +kernel) rfl) hS (Nat.le_of_ble_eq_true rfl) (Nat.le_of_ble_eq_true rfl) dX12_counted_136

set_option maxHeartbeats 4000000 in
set_option maxRecDepth 100000 in
theorem c_X12_counted_3 (l : Launch) (D : va_G) (cs : Nat → ClassId) (hm ms mkp mtr mas mso mon mot man mst msm mtb mti mfr mbn mbs mde maa mab mba mbb : Nat) (tf : Nat → Int32) (t : Nat) (y : Int32) (ht1 : 1 ≤ t) (ht2 : t ≤ 12) : xMet l D cs yX12_counted cX12_counted 9 (some .long) ({ frames := 5, cells := 6, slots := 212482, locals := 114 } : Room) [.ref hm, .int (nI t), .int (nI 3), .int y] [(hm, .inr (12, [.ref ms, .ref mkp, .int (nI 0), .ref mtr, .int (nI 4), .int (nI 2), .int (nI 2), .int (nI 3), .int (nI 2), .int (nI 1), .ref mas, .int (nI 0), .int (nI 0), .int (nI 0), .ref mso, .ref mon, .ref mot, .ref man, .int (nI 0), .int (nI 0), .ref mst, .ref msm, .ref mtb, .ref mti, .ref mfr, .ref mbn, .ref mbs, .ref mde, .int (nI 0), .int (nI 0), .int (nI 0), .int (nI 0), .long 0, .long 0, .ref maa, .ref mab, .ref mba, .ref mbb])), (ms, .inl (cs 0, 288, .inl freshS)), (mtr, .inl (cs 0, 288, .inl tf)), (msm, .inl (cs 0, 2, .inl (fun _ => 0))), (mst, .inl (cs 5, 2, .inr (.inr (.inr (.inr (fun _ => none)))))), (mtb, .inl (cs 5, 2, .inr (.inr (.inr (.inr (fun _ => none)))))), (mti, .inl (cs 6, 2, .inr (.inr (.inr (.inr (fun _ => none))))))] (xQl D (fun (r : Int64) (_u : Unit) => r = if y = 0 then lN (12 ^ t) else 0) (fun (_u : Unit) => [])) := by
  refine xMet.intro (by decide) (Nat.le_of_ble_eq_true rfl) ?_
  intro p e s m args below meth c A ls C hP hD hS hl
  have hx := C.1
  have hb := C.2.1
  have hz := C.2.2.2.2.1
  have hown := C.2.2.2.1
  have hA := C.2.2.2.2.2.2.2.2.2
  have hAO := C.2.2.2.2.2.2.2.2.1.2.2
  replace hl : lv_has ls 9 [(0, .ref hm), (1, .int (nI t)), (2, .int (nI 3)), (3, .int y)] := hl
  obtain ⟨H, hH⟩ : ∃ H, H = s.heap := ⟨_, rfl⟩
  replace hP : va_P D vwCl [(hm, .inr (12, [.ref ms, .ref mkp, .int (nI 0), .ref mtr, .int (nI 4), .int (nI 2), .int (nI 2), .int (nI 3), .int (nI 2), .int (nI 1), .ref mas, .int (nI 0), .int (nI 0), .int (nI 0), .ref mso, .ref mon, .ref mot, .ref man, .int (nI 0), .int (nI 0), .ref mst, .ref msm, .ref mtb, .ref mti, .ref mfr, .ref mbn, .ref mbs, .ref mde, .int (nI 0), .int (nI 0), .int (nI 0), .int (nI 0), .long 0, .long 0, .ref maa, .ref mab, .ref mba, .ref mbb])), (ms, .inl (cs 0, 288, .inl freshS)), (mtr, .inl (cs 0, 288, .inl tf)), (msm, .inl (cs 0, 2, .inl (fun _ => 0))), (mst, .inl (cs 5, 2, .inr (.inr (.inr (.inr (fun _ => none)))))), (mtb, .inl (cs 5, 2, .inr (.inr (.inr (.inr (fun _ => none)))))), (mti, .inl (cs 6, 2, .inr (.inr (.inr (.inr (fun _ => none))))))] H := by rw [hH]; exact hP
  replace hS : va_S A s.heap H [] := by rw [hH]; exact hS
  obtain ⟨locs, hlocs⟩ : ∃ z : List Loc, z = [] := ⟨_, rfl⟩
  rw [← hlocs] at hS
  suffices hW : W p l e ({ frames := 5, cells := 6, slots := 212482, locals := 114 } : Room) s m args below meth c H locs 0 0 (MQ below ((xQl D (fun (r : Int64) (_u : Unit) => r = if y = 0 then lN (12 ^ t) else 0) (fun (_u : Unit) => [])) A) args s 6 212482 A) (F0 m 0 ls []) by rw [hlocs, hH] at hW; exact hW
  clear hH hlocs
  refine lv_aload_n hx hb dX12_counted_0 rfl (lv_at hl 0 rfl) ?_
  refine lv_iload_n hx hb dX12_counted_1 rfl (lv_at hl 1 rfl) ?_
  refine xi (wr := []) (xV (As := [.int (nI t)]) (rest := []) C (c_X12_goes l D cs hm ms mkp mtr mas mso mon mot man mst msm mtb mti mfr mbn mbs mde maa mab mba mbb tf t ht1 ht2) kX12_206 hP hD [0, 1, 2, 3, 4, 5, 6] rfl (by decide +kernel) 0 rfl rfl rfl ⟨Nat.le_of_ble_eq_true rfl, Nat.le_of_ble_eq_true rfl⟩ rfl hl.1 rfl (Nat.le_of_ble_eq_true rfl) dX12_counted_2 ⟨Nat.le_of_ble_eq_true rfl, Nat.le_of_ble_eq_true rfl⟩) hP hD hS hA [0, 1, 2, 3, 4, 5, 6] [] rfl rfl (by decide +kernel) (by decide +kernel) ?_
  clear hP hD hS
  try clear locs
  try clear H
  intro r_1 u_2 H locs hw_r_1 hP hD hS
  obtain ⟨st0_3, st1_4, tb0_5, tb1_6, ti0_7, ti1_8, q0_9, q1_10, tc0_11, tc1_12, u0_13, u1_14⟩ := u_2
  have hw_r_1 : (r_1 = nI 0 ∧ (∀ j, j < 48 → q0_9 j = freshS j) ∧ u0_13 0 = lN (12 ^ t)) ∨ (r_1 = nI 1 ∧ (∀ j, j < 48 → q1_10 j = freshS j) ∧ u1_14 0 = lN (12 ^ t)) := hw_r_1
  refine W.widen (k := 6) (n := 212482) (Nat.le_of_ble_eq_true rfl) (Nat.le_of_ble_eq_true rfl) ?_
  replace hP : va_P D vwCl [(hm, .inr (12, [.ref ms, .ref mkp, .int (nI 0), .ref mtr, .int (nI 4), .int (nI 2), .int (nI 2), .int (nI 3), .int (nI 2), .int (nI 1), .ref mas, .int (nI 0), .int (nI 0), .int (nI 0), .ref mso, .ref mon, .ref mot, .ref man, .int (nI 0), .int (nI 0), .ref mst, .ref msm, .ref mtb, .ref mti, .ref mfr, .ref mbn, .ref mbs, .ref mde, .int (nI 0), .int (nI 0), .int (nI 0), .int (nI 0), .long 0, .long 0, .ref maa, .ref mab, .ref mba, .ref mbb])), (ms, .inl (cs 0, 288, .inl freshS)), (mtr, .inl (cs 0, 288, .inl freshS)), (msm, .inl (cs 0, 2, .inl (smF2 (nI 1) (nI 1)))), (mst, .inl (cs 5, 2, .inr (.inr (.inr (.inr (va_up (va_up (fun _ => none) 0 (some st0_3)) 1 (some st1_4))))))), (mtb, .inl (cs 5, 2, .inr (.inr (.inr (.inr (va_up (va_up (fun _ => none) 0 (some tb0_5)) 1 (some tb1_6))))))), (mti, .inl (cs 6, 2, .inr (.inr (.inr (.inr (va_up (va_up (fun _ => none) 0 (some ti0_7)) 1 (some ti1_8))))))), (st0_3, .inl (cs 0, 96048, .inl q0_9)), (st1_4, .inl (cs 0, 96048, .inl q1_10)), (tb0_5, .inl (cs 0, 8192, .inl tc0_11)), (tb1_6, .inl (cs 0, 8192, .inl tc1_12)), (ti0_7, .inl (cs 1, 2001, .inr (.inl u0_13))), (ti1_8, .inl (cs 1, 2001, .inr (.inl u1_14)))] H := hP
  replace hD : va_D A [(hm, .inr (12, [.ref ms, .ref mkp, .int (nI 0), .ref mtr, .int (nI 4), .int (nI 2), .int (nI 2), .int (nI 3), .int (nI 2), .int (nI 1), .ref mas, .int (nI 0), .int (nI 0), .int (nI 0), .ref mso, .ref mon, .ref mot, .ref man, .int (nI 0), .int (nI 0), .ref mst, .ref msm, .ref mtb, .ref mti, .ref mfr, .ref mbn, .ref mbs, .ref mde, .int (nI 0), .int (nI 0), .int (nI 0), .int (nI 0), .long 0, .long 0, .ref maa, .ref mab, .ref mba, .ref mbb])), (ms, .inl (cs 0, 288, .inl freshS)), (mtr, .inl (cs 0, 288, .inl freshS)), (msm, .inl (cs 0, 2, .inl (smF2 (nI 1) (nI 1)))), (mst, .inl (cs 5, 2, .inr (.inr (.inr (.inr (va_up (va_up (fun _ => none) 0 (some st0_3)) 1 (some st1_4))))))), (mtb, .inl (cs 5, 2, .inr (.inr (.inr (.inr (va_up (va_up (fun _ => none) 0 (some tb0_5)) 1 (some tb1_6))))))), (mti, .inl (cs 6, 2, .inr (.inr (.inr (.inr (va_up (va_up (fun _ => none) 0 (some ti0_7)) 1 (some ti1_8))))))), (st0_3, .inl (cs 0, 96048, .inl q0_9)), (st1_4, .inl (cs 0, 96048, .inl q1_10)), (tb0_5, .inl (cs 0, 8192, .inl tc0_11)), (tb1_6, .inl (cs 0, 8192, .inl tc1_12)), (ti0_7, .inl (cs 1, 2001, .inr (.inl u0_13))), (ti1_8, .inl (cs 1, 2001, .inr (.inl u1_14)))] := hD
  rcases hw_r_1 with ⟨rfl, hq, hu⟩ | ⟨rfl, hq, hu⟩
  · -- split
    replace hP : va_P D vwCl [(hm, .inr (12, [.ref ms, .ref mkp, .int (nI 0), .ref mtr, .int (nI 4), .int (nI 2), .int (nI 2), .int (nI 3), .int (nI 2), .int (nI 1), .ref mas, .int (nI 0), .int (nI 0), .int (nI 0), .ref mso, .ref mon, .ref mot, .ref man, .int (nI 0), .int (nI 0), .ref mst, .ref msm, .ref mtb, .ref mti, .ref mfr, .ref mbn, .ref mbs, .ref mde, .int (nI 0), .int (nI 0), .int (nI 0), .int (nI 0), .long 0, .long 0, .ref maa, .ref mab, .ref mba, .ref mbb])), (ms, .inl (cs 0, 288, .inl freshS)), (mtr, .inl (cs 0, 288, .inl freshS)), (msm, .inl (cs 0, 2, .inl (smF2 (nI 1) (nI 1)))), (mst, .inl (cs 5, 2, .inr (.inr (.inr (.inr (va_up (va_up (fun _ => none) 0 (some st0_3)) 1 (some st1_4))))))), (mtb, .inl (cs 5, 2, .inr (.inr (.inr (.inr (va_up (va_up (fun _ => none) 0 (some tb0_5)) 1 (some tb1_6))))))), (mti, .inl (cs 6, 2, .inr (.inr (.inr (.inr (va_up (va_up (fun _ => none) 0 (some ti0_7)) 1 (some ti1_8))))))), (st0_3, .inl (cs 0, 96048, .inl q0_9)), (st1_4, .inl (cs 0, 96048, .inl q1_10)), (tb0_5, .inl (cs 0, 8192, .inl tc0_11)), (tb1_6, .inl (cs 0, 8192, .inl tc1_12)), (ti0_7, .inl (cs 1, 2001, .inr (.inl u0_13))), (ti1_8, .inl (cs 1, 2001, .inr (.inl u1_14)))] H := hP
    replace hD : va_D A [(hm, .inr (12, [.ref ms, .ref mkp, .int (nI 0), .ref mtr, .int (nI 4), .int (nI 2), .int (nI 2), .int (nI 3), .int (nI 2), .int (nI 1), .ref mas, .int (nI 0), .int (nI 0), .int (nI 0), .ref mso, .ref mon, .ref mot, .ref man, .int (nI 0), .int (nI 0), .ref mst, .ref msm, .ref mtb, .ref mti, .ref mfr, .ref mbn, .ref mbs, .ref mde, .int (nI 0), .int (nI 0), .int (nI 0), .int (nI 0), .long 0, .long 0, .ref maa, .ref mab, .ref mba, .ref mbb])), (ms, .inl (cs 0, 288, .inl freshS)), (mtr, .inl (cs 0, 288, .inl freshS)), (msm, .inl (cs 0, 2, .inl (smF2 (nI 1) (nI 1)))), (mst, .inl (cs 5, 2, .inr (.inr (.inr (.inr (va_up (va_up (fun _ => none) 0 (some st0_3)) 1 (some st1_4))))))), (mtb, .inl (cs 5, 2, .inr (.inr (.inr (.inr (va_up (va_up (fun _ => none) 0 (some tb0_5)) 1 (some tb1_6))))))), (mti, .inl (cs 6, 2, .inr (.inr (.inr (.inr (va_up (va_up (fun _ => none) 0 (some ti0_7)) 1 (some ti1_8))))))), (st0_3, .inl (cs 0, 96048, .inl q0_9)), (st1_4, .inl (cs 0, 96048, .inl q1_10)), (tb0_5, .inl (cs 0, 8192, .inl tc0_11)), (tb1_6, .inl (cs 0, 8192, .inl tc1_12)), (ti0_7, .inl (cs 1, 2001, .inr (.inl u0_13))), (ti1_8, .inl (cs 1, 2001, .inr (.inl u1_14)))] := hD
    refine lv_istore (lv' := [(4, .int (nI 0)), (0, .ref hm), (1, .int (nI t)), (2, .int (nI 3)), (3, .int y)]) hx hb dX12_counted_5 hl (by decide) rfl ?_
    clear hl
    try clear ls
    intro ls hl
    refine lv_iload hx hb dX12_counted_7 (lv_at hl 0 rfl) ?_
    refine lv_if_ge (tgt := 16) hx hb dX12_counted_9 (by decide) (fun _ => ?_) (fun c => absurd (by decide) c)
    refine lv_aload_n hx hb dX12_counted_16 rfl (lv_at hl 1 rfl) ?_
    refine lv_aload_n hx hb dX12_counted_17 rfl (lv_at hl 1 rfl) ?_
    refine xget C hP 0 rfl rfl zuX12 0 (by decide) zw5_213 rfl dX12_counted_18 ?_
    refine lv_aload_n hx hb dX12_counted_21 rfl (lv_at hl 1 rfl) ?_
    refine xget C hP 0 rfl rfl zuX12 3 (by decide) zw5_216 rfl dX12_counted_22 ?_
    refine xv (wr := [(msm, .inl (cs 0, 2, .inl (smF2 (nI 1) (nI 1)))), (mst, .inl (cs 5, 2, .inr (.inr (.inr (.inr (va_up (va_up (fun _ => none) 0 (some st0_3)) 1 (some st1_4))))))), (mtb, .inl (cs 5, 2, .inr (.inr (.inr (.inr (va_up (va_up (fun _ => none) 0 (some tb0_5)) 1 (some tb1_6))))))), (mti, .inl (cs 6, 2, .inr (.inr (.inr (.inr (va_up (va_up (fun _ => none) 0 (some ti0_7)) 1 (some ti1_8))))))), (st0_3, .inl (cs 0, 96048, .inl q0_9)), (st1_4, .inl (cs 0, 96048, .inl q1_10)), (tb0_5, .inl (cs 0, 8192, .inl tc0_11)), (tb1_6, .inl (cs 0, 8192, .inl tc1_12)), (ti0_7, .inl (cs 1, 2001, .inr (.inl u0_13))), (ti1_8, .inl (cs 1, 2001, .inr (.inl u1_14)))]) (xV (As := [.ref ms, .ref mtr]) (rest := []) C (c_X12_puts_m l D cs hm ms mkp mtr mas mso mon mot man mst msm mtb mti mfr mbn mbs mde maa mab mba mbb ms mtr freshS freshS) kX12_148 hP hD [0, 1, 2] rfl (by decide +kernel) 0 rfl rfl rfl ⟨Nat.le_of_ble_eq_true rfl, Nat.le_of_ble_eq_true rfl⟩ rfl hl.1 rfl (Nat.le_of_ble_eq_true rfl) dX12_counted_25 ⟨Nat.le_of_ble_eq_true rfl, Nat.le_of_ble_eq_true rfl⟩) hP hD hS hA [0, 1, 2] [3, 4, 5, 6, 7, 8, 9, 10, 11, 12] rfl rfl (by decide +kernel) (by decide +kernel) ?_
    clear hP hD hS
    try clear locs
    try clear H
    intro u_16 H locs hw_r_15 hP hD hS
    refine W.widen (k := 6) (n := 212482) (Nat.le_of_ble_eq_true rfl) (Nat.le_of_ble_eq_true rfl) ?_
    replace hP : va_P D vwCl [(msm, .inl (cs 0, 2, .inl (smF2 (nI 1) (nI 1)))), (mst, .inl (cs 5, 2, .inr (.inr (.inr (.inr (va_up (va_up (fun _ => none) 0 (some st0_3)) 1 (some st1_4))))))), (mtb, .inl (cs 5, 2, .inr (.inr (.inr (.inr (va_up (va_up (fun _ => none) 0 (some tb0_5)) 1 (some tb1_6))))))), (mti, .inl (cs 6, 2, .inr (.inr (.inr (.inr (va_up (va_up (fun _ => none) 0 (some ti0_7)) 1 (some ti1_8))))))), (st0_3, .inl (cs 0, 96048, .inl q0_9)), (st1_4, .inl (cs 0, 96048, .inl q1_10)), (tb0_5, .inl (cs 0, 8192, .inl tc0_11)), (tb1_6, .inl (cs 0, 8192, .inl tc1_12)), (ti0_7, .inl (cs 1, 2001, .inr (.inl u0_13))), (ti1_8, .inl (cs 1, 2001, .inr (.inl u1_14))), (hm, .inr (12, [.ref ms, .ref mkp, .int (nI 0), .ref mtr, .int (nI 4), .int (nI 2), .int (nI 2), .int (nI 3), .int (nI 2), .int (nI 1), .ref mas, .int (nI 0), .int (nI 0), .int (nI 0), .ref mso, .ref mon, .ref mot, .ref man, .int (nI 0), .int (nI 0), .ref mst, .ref msm, .ref mtb, .ref mti, .ref mfr, .ref mbn, .ref mbs, .ref mde, .int (nI 0), .int (nI 0), .int (nI 0), .int (nI 0), .long 0, .long 0, .ref maa, .ref mab, .ref mba, .ref mbb])), (ms, .inl (cs 0, 288, .inl freshS)), (mtr, .inl (cs 0, 288, .inl freshS))] H := hP
    replace hD : va_D A [(msm, .inl (cs 0, 2, .inl (smF2 (nI 1) (nI 1)))), (mst, .inl (cs 5, 2, .inr (.inr (.inr (.inr (va_up (va_up (fun _ => none) 0 (some st0_3)) 1 (some st1_4))))))), (mtb, .inl (cs 5, 2, .inr (.inr (.inr (.inr (va_up (va_up (fun _ => none) 0 (some tb0_5)) 1 (some tb1_6))))))), (mti, .inl (cs 6, 2, .inr (.inr (.inr (.inr (va_up (va_up (fun _ => none) 0 (some ti0_7)) 1 (some ti1_8))))))), (st0_3, .inl (cs 0, 96048, .inl q0_9)), (st1_4, .inl (cs 0, 96048, .inl q1_10)), (tb0_5, .inl (cs 0, 8192, .inl tc0_11)), (tb1_6, .inl (cs 0, 8192, .inl tc1_12)), (ti0_7, .inl (cs 1, 2001, .inr (.inl u0_13))), (ti1_8, .inl (cs 1, 2001, .inr (.inl u1_14))), (hm, .inr (12, [.ref ms, .ref mkp, .int (nI 0), .ref mtr, .int (nI 4), .int (nI 2), .int (nI 2), .int (nI 3), .int (nI 2), .int (nI 1), .ref mas, .int (nI 0), .int (nI 0), .int (nI 0), .ref mso, .ref mon, .ref mot, .ref man, .int (nI 0), .int (nI 0), .ref mst, .ref msm, .ref mtb, .ref mti, .ref mfr, .ref mbn, .ref mbs, .ref mde, .int (nI 0), .int (nI 0), .int (nI 0), .int (nI 0), .long 0, .long 0, .ref maa, .ref mab, .ref mba, .ref mbb])), (ms, .inl (cs 0, 288, .inl freshS)), (mtr, .inl (cs 0, 288, .inl freshS))] := hD
    refine lv_lconst (v := 0) hx hb dX12_counted_28 (by decide) ?_
    refine lv_lstore (lv' := [(5, .long 0), (4, .int (nI 0)), (0, .ref hm), (1, .int (nI t)), (2, .int (nI 3)), (3, .int y)]) hx hb dX12_counted_29 hl (by decide) rfl ?_
    clear hl
    try clear ls
    intro ls hl
    refine lv_iconst (v := nI 0) hx hb dX12_counted_31 (by decide) ?_
    refine lv_istore (lv' := [(7, .int (nI 0)), (5, .long 0), (4, .int (nI 0)), (0, .ref hm), (1, .int (nI t)), (2, .int (nI 3)), (3, .int y)]) hx hb dX12_counted_32 hl (by decide) rfl ?_
    clear hl
    try clear ls
    intro ls hl
    refine lv_iload hx hb dX12_counted_34 (lv_at hl 0 rfl) ?_
    refine lv_aload_n hx hb dX12_counted_36 rfl (lv_at hl 3 rfl) ?_
    refine xget C hP 10 rfl rfl zuX12 21 (by decide) zw5_234 rfl dX12_counted_37 ?_
    refine lv_iload hx hb dX12_counted_40 (lv_at hl 2 rfl) ?_
    refine xiald C hP 0 rfl 0 rfl (by decide) (by decide) dX12_counted_42 ?_
    refine lv_topi (nm_r (e' := nI 1) (by decide) ?_)
    refine lv_icmp_ge (tgt := 122) hx hb dX12_counted_43 (by decide) (fun c => absurd c (by decide)) (fun _ => ?_)
    refine lv_aload_n hx hb dX12_counted_46 rfl (lv_at hl 3 rfl) ?_
    refine lv_iload hx hb dX12_counted_47 (lv_at hl 2 rfl) ?_
    refine lv_iload hx hb dX12_counted_49 (lv_at hl 0 rfl) ?_
    refine xv (wr := [(msm, .inl (cs 0, 2, .inl (smF2 (nI 1) (nI 1)))), (mtb, .inl (cs 5, 2, .inr (.inr (.inr (.inr (va_up (va_up (fun _ => none) 0 (some tb0_5)) 1 (some tb1_6))))))), (mti, .inl (cs 6, 2, .inr (.inr (.inr (.inr (va_up (va_up (fun _ => none) 0 (some ti0_7)) 1 (some ti1_8))))))), (st1_4, .inl (cs 0, 96048, .inl q1_10)), (tb0_5, .inl (cs 0, 8192, .inl tc0_11)), (tb1_6, .inl (cs 0, 8192, .inl tc1_12)), (ti0_7, .inl (cs 1, 2001, .inr (.inl u0_13))), (ti1_8, .inl (cs 1, 2001, .inr (.inl u1_14))), (mtr, .inl (cs 0, 288, .inl freshS))]) (xV (As := [.int (nI 0), .int (nI 0)]) (rest := []) C (c_X12_brings_0 l D cs hm ms mkp mtr mas mso mon mot man mst msm mtb mti mfr mbn mbs mde maa mab mba mbb st0_3 (va_up (va_up (fun _ => none) 0 (some st0_3)) 1 (some st1_4)) q0_9 rfl hq) kX12_203 hP hD [10, 11, 1, 4] rfl (by decide +kernel) 0 rfl rfl rfl ⟨Nat.le_of_ble_eq_true rfl, Nat.le_of_ble_eq_true rfl⟩ rfl hl.1 rfl (Nat.le_of_ble_eq_true rfl) dX12_counted_51 ⟨Nat.le_of_ble_eq_true rfl, Nat.le_of_ble_eq_true rfl⟩) hP hD hS hA [10, 11, 1, 4] [0, 2, 3, 5, 6, 7, 8, 9, 12] rfl rfl (by decide +kernel) (by decide +kernel) ?_
    clear hP hD hS
    try clear locs
    try clear H
    intro u_18 H locs hw_r_17 hP hD hS
    refine W.widen (k := 6) (n := 212482) (Nat.le_of_ble_eq_true rfl) (Nat.le_of_ble_eq_true rfl) ?_
    replace hP : va_P D vwCl [(msm, .inl (cs 0, 2, .inl (smF2 (nI 1) (nI 1)))), (mtb, .inl (cs 5, 2, .inr (.inr (.inr (.inr (va_up (va_up (fun _ => none) 0 (some tb0_5)) 1 (some tb1_6))))))), (mti, .inl (cs 6, 2, .inr (.inr (.inr (.inr (va_up (va_up (fun _ => none) 0 (some ti0_7)) 1 (some ti1_8))))))), (st1_4, .inl (cs 0, 96048, .inl q1_10)), (tb0_5, .inl (cs 0, 8192, .inl tc0_11)), (tb1_6, .inl (cs 0, 8192, .inl tc1_12)), (ti0_7, .inl (cs 1, 2001, .inr (.inl u0_13))), (ti1_8, .inl (cs 1, 2001, .inr (.inl u1_14))), (mtr, .inl (cs 0, 288, .inl freshS)), (hm, .inr (12, [.ref ms, .ref mkp, .int (nI 0), .ref mtr, .int (nI 4), .int (nI 2), .int (nI 2), .int (nI 3), .int (nI 2), .int (nI 1), .ref mas, .int (nI 0), .int (nI 0), .int (nI 0), .ref mso, .ref mon, .ref mot, .ref man, .int (nI 0), .int (nI 0), .ref mst, .ref msm, .ref mtb, .ref mti, .ref mfr, .ref mbn, .ref mbs, .ref mde, .int (nI 0), .int (nI 0), .int (nI 0), .int (nI 0), .long 0, .long 0, .ref maa, .ref mab, .ref mba, .ref mbb])), (ms, .inl (cs 0, 288, .inl freshS)), (mst, .inl (cs 5, 2, .inr (.inr (.inr (.inr (va_up (va_up (fun _ => none) 0 (some st0_3)) 1 (some st1_4))))))), (st0_3, .inl (cs 0, 96048, .inl q0_9))] H := hP
    replace hD : va_D A [(msm, .inl (cs 0, 2, .inl (smF2 (nI 1) (nI 1)))), (mtb, .inl (cs 5, 2, .inr (.inr (.inr (.inr (va_up (va_up (fun _ => none) 0 (some tb0_5)) 1 (some tb1_6))))))), (mti, .inl (cs 6, 2, .inr (.inr (.inr (.inr (va_up (va_up (fun _ => none) 0 (some ti0_7)) 1 (some ti1_8))))))), (st1_4, .inl (cs 0, 96048, .inl q1_10)), (tb0_5, .inl (cs 0, 8192, .inl tc0_11)), (tb1_6, .inl (cs 0, 8192, .inl tc1_12)), (ti0_7, .inl (cs 1, 2001, .inr (.inl u0_13))), (ti1_8, .inl (cs 1, 2001, .inr (.inl u1_14))), (mtr, .inl (cs 0, 288, .inl freshS)), (hm, .inr (12, [.ref ms, .ref mkp, .int (nI 0), .ref mtr, .int (nI 4), .int (nI 2), .int (nI 2), .int (nI 3), .int (nI 2), .int (nI 1), .ref mas, .int (nI 0), .int (nI 0), .int (nI 0), .ref mso, .ref mon, .ref mot, .ref man, .int (nI 0), .int (nI 0), .ref mst, .ref msm, .ref mtb, .ref mti, .ref mfr, .ref mbn, .ref mbs, .ref mde, .int (nI 0), .int (nI 0), .int (nI 0), .int (nI 0), .long 0, .long 0, .ref maa, .ref mab, .ref mba, .ref mbb])), (ms, .inl (cs 0, 288, .inl freshS)), (mst, .inl (cs 5, 2, .inr (.inr (.inr (.inr (va_up (va_up (fun _ => none) 0 (some st0_3)) 1 (some st1_4))))))), (st0_3, .inl (cs 0, 96048, .inl q0_9))] := hD
    refine lv_iload_n hx hb dX12_counted_54 rfl (lv_at hl 5 rfl) ?_
    refine lv_iconst (v := nI 1) hx hb dX12_counted_55 (by decide) ?_
    refine lv_icmp_ne (tgt := 66) hx hb dX12_counted_56 (by decide) (fun _ => ?_) (fun c => absurd c (by decide))
    refine lv_iload_n hx hb dX12_counted_66 rfl (lv_at hl 5 rfl) ?_
    refine lv_iconst (v := nI 2) hx hb dX12_counted_67 (by decide) ?_
    refine lv_icmp_ne (tgt := 78) hx hb dX12_counted_68 (by decide) (fun _ => ?_) (fun c => absurd c (by decide))
    refine lv_aload_n hx hb dX12_counted_78 rfl (lv_at hl 3 rfl) ?_
    refine xi (wr := [(msm, .inl (cs 0, 2, .inl (smF2 (nI 1) (nI 1)))), (mtb, .inl (cs 5, 2, .inr (.inr (.inr (.inr (va_up (va_up (fun _ => none) 0 (some tb0_5)) 1 (some tb1_6))))))), (mti, .inl (cs 6, 2, .inr (.inr (.inr (.inr (va_up (va_up (fun _ => none) 0 (some ti0_7)) 1 (some ti1_8))))))), (st1_4, .inl (cs 0, 96048, .inl q1_10)), (tb0_5, .inl (cs 0, 8192, .inl tc0_11)), (tb1_6, .inl (cs 0, 8192, .inl tc1_12)), (ti0_7, .inl (cs 1, 2001, .inr (.inl u0_13))), (ti1_8, .inl (cs 1, 2001, .inr (.inl u1_14))), (mtr, .inl (cs 0, 288, .inl freshS)), (mst, .inl (cs 5, 2, .inr (.inr (.inr (.inr (va_up (va_up (fun _ => none) 0 (some st0_3)) 1 (some st1_4))))))), (st0_3, .inl (cs 0, 96048, .inl q0_9))]) (xV (As := []) (rest := []) C (c_X12_coloured_z l D cs hm ms mkp mtr mas mso mon mot man mst msm mtb mti mfr mbn mbs mde maa mab mba mbb) kX12_218 hP hD [9, 10] rfl (by decide +kernel) 0 rfl rfl rfl ⟨Nat.le_of_ble_eq_true rfl, Nat.le_of_ble_eq_true rfl⟩ rfl hl.1 rfl (Nat.le_of_ble_eq_true rfl) dX12_counted_79 ⟨Nat.le_of_ble_eq_true rfl, Nat.le_of_ble_eq_true rfl⟩) hP hD hS hA [9, 10] [0, 1, 2, 3, 4, 5, 6, 7, 8, 11, 12] rfl rfl (by decide +kernel) (by decide +kernel) ?_
    clear hP hD hS
    try clear locs
    try clear H
    intro r_19 u_20 H locs hw_r_19 hP hD hS
    have hw_r_19 : r_19 = nI 0 := hw_r_19
    refine W.widen (k := 6) (n := 212482) (Nat.le_of_ble_eq_true rfl) (Nat.le_of_ble_eq_true rfl) ?_
    replace hP : va_P D vwCl [(msm, .inl (cs 0, 2, .inl (smF2 (nI 1) (nI 1)))), (mtb, .inl (cs 5, 2, .inr (.inr (.inr (.inr (va_up (va_up (fun _ => none) 0 (some tb0_5)) 1 (some tb1_6))))))), (mti, .inl (cs 6, 2, .inr (.inr (.inr (.inr (va_up (va_up (fun _ => none) 0 (some ti0_7)) 1 (some ti1_8))))))), (st1_4, .inl (cs 0, 96048, .inl q1_10)), (tb0_5, .inl (cs 0, 8192, .inl tc0_11)), (tb1_6, .inl (cs 0, 8192, .inl tc1_12)), (ti0_7, .inl (cs 1, 2001, .inr (.inl u0_13))), (ti1_8, .inl (cs 1, 2001, .inr (.inl u1_14))), (mtr, .inl (cs 0, 288, .inl freshS)), (mst, .inl (cs 5, 2, .inr (.inr (.inr (.inr (va_up (va_up (fun _ => none) 0 (some st0_3)) 1 (some st1_4))))))), (st0_3, .inl (cs 0, 96048, .inl q0_9)), (hm, .inr (12, [.ref ms, .ref mkp, .int (nI 0), .ref mtr, .int (nI 4), .int (nI 2), .int (nI 2), .int (nI 3), .int (nI 2), .int (nI 1), .ref mas, .int (nI 0), .int (nI 0), .int (nI 0), .ref mso, .ref mon, .ref mot, .ref man, .int (nI 0), .int (nI 0), .ref mst, .ref msm, .ref mtb, .ref mti, .ref mfr, .ref mbn, .ref mbs, .ref mde, .int (nI 0), .int (nI 0), .int (nI 0), .int (nI 0), .long 0, .long 0, .ref maa, .ref mab, .ref mba, .ref mbb])), (ms, .inl (cs 0, 288, .inl freshS))] H := hP
    replace hD : va_D A [(msm, .inl (cs 0, 2, .inl (smF2 (nI 1) (nI 1)))), (mtb, .inl (cs 5, 2, .inr (.inr (.inr (.inr (va_up (va_up (fun _ => none) 0 (some tb0_5)) 1 (some tb1_6))))))), (mti, .inl (cs 6, 2, .inr (.inr (.inr (.inr (va_up (va_up (fun _ => none) 0 (some ti0_7)) 1 (some ti1_8))))))), (st1_4, .inl (cs 0, 96048, .inl q1_10)), (tb0_5, .inl (cs 0, 8192, .inl tc0_11)), (tb1_6, .inl (cs 0, 8192, .inl tc1_12)), (ti0_7, .inl (cs 1, 2001, .inr (.inl u0_13))), (ti1_8, .inl (cs 1, 2001, .inr (.inl u1_14))), (mtr, .inl (cs 0, 288, .inl freshS)), (mst, .inl (cs 5, 2, .inr (.inr (.inr (.inr (va_up (va_up (fun _ => none) 0 (some st0_3)) 1 (some st1_4))))))), (st0_3, .inl (cs 0, 96048, .inl q0_9)), (hm, .inr (12, [.ref ms, .ref mkp, .int (nI 0), .ref mtr, .int (nI 4), .int (nI 2), .int (nI 2), .int (nI 3), .int (nI 2), .int (nI 1), .ref mas, .int (nI 0), .int (nI 0), .int (nI 0), .ref mso, .ref mon, .ref mot, .ref man, .int (nI 0), .int (nI 0), .ref mst, .ref msm, .ref mtb, .ref mti, .ref mfr, .ref mbn, .ref mbs, .ref mde, .int (nI 0), .int (nI 0), .int (nI 0), .int (nI 0), .long 0, .long 0, .ref maa, .ref mab, .ref mba, .ref mbb])), (ms, .inl (cs 0, 288, .inl freshS))] := hD
    subst hw_r_19
    refine xi (wr := [(msm, .inl (cs 0, 2, .inl (smF2 (nI 1) (nI 1)))), (mtb, .inl (cs 5, 2, .inr (.inr (.inr (.inr (va_up (va_up (fun _ => none) 0 (some tb0_5)) 1 (some tb1_6))))))), (mti, .inl (cs 6, 2, .inr (.inr (.inr (.inr (va_up (va_up (fun _ => none) 0 (some ti0_7)) 1 (some ti1_8))))))), (st1_4, .inl (cs 0, 96048, .inl q1_10)), (tb0_5, .inl (cs 0, 8192, .inl tc0_11)), (tb1_6, .inl (cs 0, 8192, .inl tc1_12)), (ti0_7, .inl (cs 1, 2001, .inr (.inl u0_13))), (ti1_8, .inl (cs 1, 2001, .inr (.inl u1_14))), (mtr, .inl (cs 0, 288, .inl freshS)), (mst, .inl (cs 5, 2, .inr (.inr (.inr (.inr (va_up (va_up (fun _ => none) 0 (some st0_3)) 1 (some st1_4))))))), (st0_3, .inl (cs 0, 96048, .inl q0_9)), (hm, .inr (12, [.ref ms, .ref mkp, .int (nI 0), .ref mtr, .int (nI 4), .int (nI 2), .int (nI 2), .int (nI 3), .int (nI 2), .int (nI 1), .ref mas, .int (nI 0), .int (nI 0), .int (nI 0), .ref mso, .ref mon, .ref mot, .ref man, .int (nI 0), .int (nI 0), .ref mst, .ref msm, .ref mtb, .ref mti, .ref mfr, .ref mbn, .ref mbs, .ref mde, .int (nI 0), .int (nI 0), .int (nI 0), .int (nI 0), .long 0, .long 0, .ref maa, .ref mab, .ref mba, .ref mbb])), (ms, .inl (cs 0, 288, .inl freshS))]) (xS (As := [.int (nI 0)]) (rest := []) C (c_X12_many_z l D cs 0) kX12_127 hP hD [] rfl (by decide +kernel) ⟨Nat.le_of_ble_eq_true rfl, Nat.le_of_ble_eq_true rfl⟩ rfl hl.1 rfl (Nat.le_of_ble_eq_true rfl) dX12_counted_82 ⟨Nat.le_of_ble_eq_true rfl, Nat.le_of_ble_eq_true rfl⟩) hP hD hS hA [] [0, 1, 2, 3, 4, 5, 6, 7, 8, 9, 10, 11, 12] rfl rfl (by decide +kernel) (by decide +kernel) ?_
    clear hP hD hS
    try clear locs
    try clear H
    intro r_21 u_22 H locs hw_r_21 hP hD hS
    have hw_r_21 : r_21 = nI 0 := hw_r_21
    refine W.widen (k := 6) (n := 212482) (Nat.le_of_ble_eq_true rfl) (Nat.le_of_ble_eq_true rfl) ?_
    replace hP : va_P D vwCl [(msm, .inl (cs 0, 2, .inl (smF2 (nI 1) (nI 1)))), (mtb, .inl (cs 5, 2, .inr (.inr (.inr (.inr (va_up (va_up (fun _ => none) 0 (some tb0_5)) 1 (some tb1_6))))))), (mti, .inl (cs 6, 2, .inr (.inr (.inr (.inr (va_up (va_up (fun _ => none) 0 (some ti0_7)) 1 (some ti1_8))))))), (st1_4, .inl (cs 0, 96048, .inl q1_10)), (tb0_5, .inl (cs 0, 8192, .inl tc0_11)), (tb1_6, .inl (cs 0, 8192, .inl tc1_12)), (ti0_7, .inl (cs 1, 2001, .inr (.inl u0_13))), (ti1_8, .inl (cs 1, 2001, .inr (.inl u1_14))), (mtr, .inl (cs 0, 288, .inl freshS)), (mst, .inl (cs 5, 2, .inr (.inr (.inr (.inr (va_up (va_up (fun _ => none) 0 (some st0_3)) 1 (some st1_4))))))), (st0_3, .inl (cs 0, 96048, .inl q0_9)), (hm, .inr (12, [.ref ms, .ref mkp, .int (nI 0), .ref mtr, .int (nI 4), .int (nI 2), .int (nI 2), .int (nI 3), .int (nI 2), .int (nI 1), .ref mas, .int (nI 0), .int (nI 0), .int (nI 0), .ref mso, .ref mon, .ref mot, .ref man, .int (nI 0), .int (nI 0), .ref mst, .ref msm, .ref mtb, .ref mti, .ref mfr, .ref mbn, .ref mbs, .ref mde, .int (nI 0), .int (nI 0), .int (nI 0), .int (nI 0), .long 0, .long 0, .ref maa, .ref mab, .ref mba, .ref mbb])), (ms, .inl (cs 0, 288, .inl freshS))] H := hP
    replace hD : va_D A [(msm, .inl (cs 0, 2, .inl (smF2 (nI 1) (nI 1)))), (mtb, .inl (cs 5, 2, .inr (.inr (.inr (.inr (va_up (va_up (fun _ => none) 0 (some tb0_5)) 1 (some tb1_6))))))), (mti, .inl (cs 6, 2, .inr (.inr (.inr (.inr (va_up (va_up (fun _ => none) 0 (some ti0_7)) 1 (some ti1_8))))))), (st1_4, .inl (cs 0, 96048, .inl q1_10)), (tb0_5, .inl (cs 0, 8192, .inl tc0_11)), (tb1_6, .inl (cs 0, 8192, .inl tc1_12)), (ti0_7, .inl (cs 1, 2001, .inr (.inl u0_13))), (ti1_8, .inl (cs 1, 2001, .inr (.inl u1_14))), (mtr, .inl (cs 0, 288, .inl freshS)), (mst, .inl (cs 5, 2, .inr (.inr (.inr (.inr (va_up (va_up (fun _ => none) 0 (some st0_3)) 1 (some st1_4))))))), (st0_3, .inl (cs 0, 96048, .inl q0_9)), (hm, .inr (12, [.ref ms, .ref mkp, .int (nI 0), .ref mtr, .int (nI 4), .int (nI 2), .int (nI 2), .int (nI 3), .int (nI 2), .int (nI 1), .ref mas, .int (nI 0), .int (nI 0), .int (nI 0), .ref mso, .ref mon, .ref mot, .ref man, .int (nI 0), .int (nI 0), .ref mst, .ref msm, .ref mtb, .ref mti, .ref mfr, .ref mbn, .ref mbs, .ref mde, .int (nI 0), .int (nI 0), .int (nI 0), .int (nI 0), .long 0, .long 0, .ref maa, .ref mab, .ref mba, .ref mbb])), (ms, .inl (cs 0, 288, .inl freshS))] := hD
    subst hw_r_21
    refine lv_iload_n hx hb dX12_counted_85 rfl (lv_at hl 6 rfl) ?_
    refine lv_icmp_ne (tgt := 93) hx hb dX12_counted_86 (by decide) (fun c_23 => ?_) (fun c_23 => ?_)
    · -- 86 t
      have hy0 : ¬ y = 0 := fun q => c_23 q.symm
      refine lv_iconst (v := nI 0) hx hb dX12_counted_93 (by decide) ?_
      refine lv_istore (lv' := [(8, .int (nI 0)), (7, .int (nI 0)), (5, .long 0), (4, .int (nI 0)), (0, .ref hm), (1, .int (nI t)), (2, .int (nI 3)), (3, .int y)]) hx hb dX12_counted_94 hl (by decide) rfl ?_
      clear hl
      try clear ls
      intro ls hl
      refine lv_iload hx hb dX12_counted_96 (lv_at hl 0 rfl) ?_
      refine lv_if_eq (tgt := 116) hx hb dX12_counted_98 (by decide) (fun _ => ?_) (fun c => absurd (by decide) c)
      refine lv_iinc (v := nI 1) (lv' := [(7, .int (nI 1)), (8, .int (nI 0)), (5, .long 0), (4, .int (nI 0)), (0, .ref hm), (1, .int (nI t)), (2, .int (nI 3)), (3, .int y)]) hx hb dX12_counted_116 hl (k := 1) rfl (by decide) (by decide) rfl ?_
      clear hl
      try clear ls
      intro ls hl
      refine lv_goto (tgt := 34) hx hb dX12_counted_119 (by decide) ?_
      refine lv_iload hx hb dX12_counted_34 (lv_at hl 0 rfl) ?_
      refine lv_aload_n hx hb dX12_counted_36 rfl (lv_at hl 4 rfl) ?_
      refine xget C hP 11 rfl rfl zuX12 21 (by decide) zw5_234 rfl dX12_counted_37 ?_
      refine lv_iload hx hb dX12_counted_40 (lv_at hl 3 rfl) ?_
      refine xiald C hP 0 rfl 0 rfl (by decide) (by decide) dX12_counted_42 ?_
      refine lv_topi (nm_r (e' := nI 1) (by decide) ?_)
      refine lv_icmp_ge (tgt := 122) hx hb dX12_counted_43 (by decide) (fun _ => ?_) (fun c => absurd (by decide) c)
      refine lv_aload_n hx hb dX12_counted_122 rfl (lv_at hl 4 rfl) ?_
      refine lv_aload_n hx hb dX12_counted_123 rfl (lv_at hl 4 rfl) ?_
      refine xget C hP 11 rfl rfl zuX12 3 (by decide) zw5_216 rfl dX12_counted_124 ?_
      refine lv_aload_n hx hb dX12_counted_127 rfl (lv_at hl 4 rfl) ?_
      refine xget C hP 11 rfl rfl zuX12 0 (by decide) zw5_213 rfl dX12_counted_128 ?_
      refine xv (wr := [(msm, .inl (cs 0, 2, .inl (smF2 (nI 1) (nI 1)))), (mtb, .inl (cs 5, 2, .inr (.inr (.inr (.inr (va_up (va_up (fun _ => none) 0 (some tb0_5)) 1 (some tb1_6))))))), (mti, .inl (cs 6, 2, .inr (.inr (.inr (.inr (va_up (va_up (fun _ => none) 0 (some ti0_7)) 1 (some ti1_8))))))), (st1_4, .inl (cs 0, 96048, .inl q1_10)), (tb0_5, .inl (cs 0, 8192, .inl tc0_11)), (tb1_6, .inl (cs 0, 8192, .inl tc1_12)), (ti0_7, .inl (cs 1, 2001, .inr (.inl u0_13))), (ti1_8, .inl (cs 1, 2001, .inr (.inl u1_14))), (mst, .inl (cs 5, 2, .inr (.inr (.inr (.inr (va_up (va_up (fun _ => none) 0 (some st0_3)) 1 (some st1_4))))))), (st0_3, .inl (cs 0, 96048, .inl q0_9))]) (xV (As := [.ref mtr, .ref ms]) (rest := []) C (c_X12_puts_m l D cs hm ms mkp mtr mas mso mon mot man mst msm mtb mti mfr mbn mbs mde maa mab mba mbb mtr ms freshS freshS) kX12_148 hP hD [11, 8, 12] rfl (by decide +kernel) 0 rfl rfl rfl ⟨Nat.le_of_ble_eq_true rfl, Nat.le_of_ble_eq_true rfl⟩ rfl hl.1 rfl (Nat.le_of_ble_eq_true rfl) dX12_counted_131 ⟨Nat.le_of_ble_eq_true rfl, Nat.le_of_ble_eq_true rfl⟩) hP hD hS hA [11, 8, 12] [0, 1, 2, 3, 4, 5, 6, 7, 9, 10] rfl rfl (by decide +kernel) (by decide +kernel) ?_
      clear hP hD hS
      try clear locs
      try clear H
      intro u_25 H locs hw_r_24 hP hD hS
      refine W.widen (k := 6) (n := 212482) (Nat.le_of_ble_eq_true rfl) (Nat.le_of_ble_eq_true rfl) ?_
      replace hP : va_P D vwCl [(msm, .inl (cs 0, 2, .inl (smF2 (nI 1) (nI 1)))), (mtb, .inl (cs 5, 2, .inr (.inr (.inr (.inr (va_up (va_up (fun _ => none) 0 (some tb0_5)) 1 (some tb1_6))))))), (mti, .inl (cs 6, 2, .inr (.inr (.inr (.inr (va_up (va_up (fun _ => none) 0 (some ti0_7)) 1 (some ti1_8))))))), (st1_4, .inl (cs 0, 96048, .inl q1_10)), (tb0_5, .inl (cs 0, 8192, .inl tc0_11)), (tb1_6, .inl (cs 0, 8192, .inl tc1_12)), (ti0_7, .inl (cs 1, 2001, .inr (.inl u0_13))), (ti1_8, .inl (cs 1, 2001, .inr (.inl u1_14))), (mst, .inl (cs 5, 2, .inr (.inr (.inr (.inr (va_up (va_up (fun _ => none) 0 (some st0_3)) 1 (some st1_4))))))), (st0_3, .inl (cs 0, 96048, .inl q0_9)), (hm, .inr (12, [.ref ms, .ref mkp, .int (nI 0), .ref mtr, .int (nI 4), .int (nI 2), .int (nI 2), .int (nI 3), .int (nI 2), .int (nI 1), .ref mas, .int (nI 0), .int (nI 0), .int (nI 0), .ref mso, .ref mon, .ref mot, .ref man, .int (nI 0), .int (nI 0), .ref mst, .ref msm, .ref mtb, .ref mti, .ref mfr, .ref mbn, .ref mbs, .ref mde, .int (nI 0), .int (nI 0), .int (nI 0), .int (nI 0), .long 0, .long 0, .ref maa, .ref mab, .ref mba, .ref mbb])), (mtr, .inl (cs 0, 288, .inl freshS)), (ms, .inl (cs 0, 288, .inl freshS))] H := hP
      replace hD : va_D A [(msm, .inl (cs 0, 2, .inl (smF2 (nI 1) (nI 1)))), (mtb, .inl (cs 5, 2, .inr (.inr (.inr (.inr (va_up (va_up (fun _ => none) 0 (some tb0_5)) 1 (some tb1_6))))))), (mti, .inl (cs 6, 2, .inr (.inr (.inr (.inr (va_up (va_up (fun _ => none) 0 (some ti0_7)) 1 (some ti1_8))))))), (st1_4, .inl (cs 0, 96048, .inl q1_10)), (tb0_5, .inl (cs 0, 8192, .inl tc0_11)), (tb1_6, .inl (cs 0, 8192, .inl tc1_12)), (ti0_7, .inl (cs 1, 2001, .inr (.inl u0_13))), (ti1_8, .inl (cs 1, 2001, .inr (.inl u1_14))), (mst, .inl (cs 5, 2, .inr (.inr (.inr (.inr (va_up (va_up (fun _ => none) 0 (some st0_3)) 1 (some st1_4))))))), (st0_3, .inl (cs 0, 96048, .inl q0_9)), (hm, .inr (12, [.ref ms, .ref mkp, .int (nI 0), .ref mtr, .int (nI 4), .int (nI 2), .int (nI 2), .int (nI 3), .int (nI 2), .int (nI 1), .ref mas, .int (nI 0), .int (nI 0), .int (nI 0), .ref mso, .ref mon, .ref mot, .ref man, .int (nI 0), .int (nI 0), .ref mst, .ref msm, .ref mtb, .ref mti, .ref mfr, .ref mbn, .ref mbs, .ref mde, .int (nI 0), .int (nI 0), .int (nI 0), .int (nI 0), .long 0, .long 0, .ref maa, .ref mab, .ref mba, .ref mbb])), (mtr, .inl (cs 0, 288, .inl freshS)), (ms, .inl (cs 0, 288, .inl freshS))] := hD
      refine lv_lload hx hb dX12_counted_134 (lv_at hl 2 rfl) ?_
      exact xretl C () ((if_neg hy0).symm) (xP_map hP [] rfl) (hD.sub [] (by decide +kernel) rfl) hS (Nat.le_of_ble_eq_true rfl) (Nat.le_of_ble_eq_true rfl) dX12_counted_136
    · -- 86 f
      have hy0 : y = 0 := Eq.symm c_23
      refine lv_iconst (v := nI 1) hx hb dX12_counted_89 (by decide) ?_
      refine lv_goto (tgt := 94) hx hb dX12_counted_90 (by decide) ?_
      refine lv_istore (lv' := [(8, .int (nI 1)), (7, .int (nI 0)), (5, .long 0), (4, .int (nI 0)), (0, .ref hm), (1, .int (nI t)), (2, .int (nI 3)), (3, .int y)]) hx hb dX12_counted_94 hl (by decide) rfl ?_
      clear hl
      try clear ls
      intro ls hl
      refine lv_iload hx hb dX12_counted_96 (lv_at hl 0 rfl) ?_
      refine lv_if_eq (tgt := 116) hx hb dX12_counted_98 (by decide) (fun c => absurd c (by decide)) (fun _ => ?_)
      refine lv_lload hx hb dX12_counted_101 (lv_at hl 2 rfl) ?_
      refine lv_aload_n hx hb dX12_counted_103 rfl (lv_at hl 4 rfl) ?_
      refine xget C hP 11 rfl rfl zuX12 23 (by decide) zw5_236 rfl dX12_counted_104 ?_
      refine lv_iload hx hb dX12_counted_107 (lv_at hl 3 rfl) ?_
      refine xaald C hP 2 6 rfl rfl rfl 0 rfl (by decide) (by decide) rfl dX12_counted_109 ?_
      refine lv_iload hx hb dX12_counted_110 (lv_at hl 1 rfl) ?_
      refine xlald C hP 6 rfl 0 rfl (by decide) (by decide) dX12_counted_112 ?_
      refine lv_ladd hx hb dX12_counted_113 ?_
      refine lv_topl (nm_r (e' := lN (12 ^ t)) (by rw [hu, Int64.zero_add]) ?_)
      refine lv_lstore (lv' := [(5, .long (lN (12 ^ t))), (8, .int (nI 1)), (7, .int (nI 0)), (4, .int (nI 0)), (0, .ref hm), (1, .int (nI t)), (2, .int (nI 3)), (3, .int y)]) hx hb dX12_counted_114 hl (by decide) rfl ?_
      clear hl
      try clear ls
      intro ls hl
      refine lv_iinc (v := nI 1) (lv' := [(7, .int (nI 1)), (5, .long (lN (12 ^ t))), (8, .int (nI 1)), (4, .int (nI 0)), (0, .ref hm), (1, .int (nI t)), (2, .int (nI 3)), (3, .int y)]) hx hb dX12_counted_116 hl (k := 2) rfl (by decide) (by decide) rfl ?_
      clear hl
      try clear ls
      intro ls hl
      refine lv_goto (tgt := 34) hx hb dX12_counted_119 (by decide) ?_
      refine lv_iload hx hb dX12_counted_34 (lv_at hl 0 rfl) ?_
      refine lv_aload_n hx hb dX12_counted_36 rfl (lv_at hl 4 rfl) ?_
      refine xget C hP 11 rfl rfl zuX12 21 (by decide) zw5_234 rfl dX12_counted_37 ?_
      refine lv_iload hx hb dX12_counted_40 (lv_at hl 3 rfl) ?_
      refine xiald C hP 0 rfl 0 rfl (by decide) (by decide) dX12_counted_42 ?_
      refine lv_topi (nm_r (e' := nI 1) (by decide) ?_)
      refine lv_icmp_ge (tgt := 122) hx hb dX12_counted_43 (by decide) (fun _ => ?_) (fun c => absurd (by decide) c)
      refine lv_aload_n hx hb dX12_counted_122 rfl (lv_at hl 4 rfl) ?_
      refine lv_aload_n hx hb dX12_counted_123 rfl (lv_at hl 4 rfl) ?_
      refine xget C hP 11 rfl rfl zuX12 3 (by decide) zw5_216 rfl dX12_counted_124 ?_
      refine lv_aload_n hx hb dX12_counted_127 rfl (lv_at hl 4 rfl) ?_
      refine xget C hP 11 rfl rfl zuX12 0 (by decide) zw5_213 rfl dX12_counted_128 ?_
      refine xv (wr := [(msm, .inl (cs 0, 2, .inl (smF2 (nI 1) (nI 1)))), (mtb, .inl (cs 5, 2, .inr (.inr (.inr (.inr (va_up (va_up (fun _ => none) 0 (some tb0_5)) 1 (some tb1_6))))))), (mti, .inl (cs 6, 2, .inr (.inr (.inr (.inr (va_up (va_up (fun _ => none) 0 (some ti0_7)) 1 (some ti1_8))))))), (st1_4, .inl (cs 0, 96048, .inl q1_10)), (tb0_5, .inl (cs 0, 8192, .inl tc0_11)), (tb1_6, .inl (cs 0, 8192, .inl tc1_12)), (ti0_7, .inl (cs 1, 2001, .inr (.inl u0_13))), (ti1_8, .inl (cs 1, 2001, .inr (.inl u1_14))), (mst, .inl (cs 5, 2, .inr (.inr (.inr (.inr (va_up (va_up (fun _ => none) 0 (some st0_3)) 1 (some st1_4))))))), (st0_3, .inl (cs 0, 96048, .inl q0_9))]) (xV (As := [.ref mtr, .ref ms]) (rest := []) C (c_X12_puts_m l D cs hm ms mkp mtr mas mso mon mot man mst msm mtb mti mfr mbn mbs mde maa mab mba mbb mtr ms freshS freshS) kX12_148 hP hD [11, 8, 12] rfl (by decide +kernel) 0 rfl rfl rfl ⟨Nat.le_of_ble_eq_true rfl, Nat.le_of_ble_eq_true rfl⟩ rfl hl.1 rfl (Nat.le_of_ble_eq_true rfl) dX12_counted_131 ⟨Nat.le_of_ble_eq_true rfl, Nat.le_of_ble_eq_true rfl⟩) hP hD hS hA [11, 8, 12] [0, 1, 2, 3, 4, 5, 6, 7, 9, 10] rfl rfl (by decide +kernel) (by decide +kernel) ?_
      clear hP hD hS
      try clear locs
      try clear H
      intro u_27 H locs hw_r_26 hP hD hS
      refine W.widen (k := 6) (n := 212482) (Nat.le_of_ble_eq_true rfl) (Nat.le_of_ble_eq_true rfl) ?_
      replace hP : va_P D vwCl [(msm, .inl (cs 0, 2, .inl (smF2 (nI 1) (nI 1)))), (mtb, .inl (cs 5, 2, .inr (.inr (.inr (.inr (va_up (va_up (fun _ => none) 0 (some tb0_5)) 1 (some tb1_6))))))), (mti, .inl (cs 6, 2, .inr (.inr (.inr (.inr (va_up (va_up (fun _ => none) 0 (some ti0_7)) 1 (some ti1_8))))))), (st1_4, .inl (cs 0, 96048, .inl q1_10)), (tb0_5, .inl (cs 0, 8192, .inl tc0_11)), (tb1_6, .inl (cs 0, 8192, .inl tc1_12)), (ti0_7, .inl (cs 1, 2001, .inr (.inl u0_13))), (ti1_8, .inl (cs 1, 2001, .inr (.inl u1_14))), (mst, .inl (cs 5, 2, .inr (.inr (.inr (.inr (va_up (va_up (fun _ => none) 0 (some st0_3)) 1 (some st1_4))))))), (st0_3, .inl (cs 0, 96048, .inl q0_9)), (hm, .inr (12, [.ref ms, .ref mkp, .int (nI 0), .ref mtr, .int (nI 4), .int (nI 2), .int (nI 2), .int (nI 3), .int (nI 2), .int (nI 1), .ref mas, .int (nI 0), .int (nI 0), .int (nI 0), .ref mso, .ref mon, .ref mot, .ref man, .int (nI 0), .int (nI 0), .ref mst, .ref msm, .ref mtb, .ref mti, .ref mfr, .ref mbn, .ref mbs, .ref mde, .int (nI 0), .int (nI 0), .int (nI 0), .int (nI 0), .long 0, .long 0, .ref maa, .ref mab, .ref mba, .ref mbb])), (mtr, .inl (cs 0, 288, .inl freshS)), (ms, .inl (cs 0, 288, .inl freshS))] H := hP
      replace hD : va_D A [(msm, .inl (cs 0, 2, .inl (smF2 (nI 1) (nI 1)))), (mtb, .inl (cs 5, 2, .inr (.inr (.inr (.inr (va_up (va_up (fun _ => none) 0 (some tb0_5)) 1 (some tb1_6))))))), (mti, .inl (cs 6, 2, .inr (.inr (.inr (.inr (va_up (va_up (fun _ => none) 0 (some ti0_7)) 1 (some ti1_8))))))), (st1_4, .inl (cs 0, 96048, .inl q1_10)), (tb0_5, .inl (cs 0, 8192, .inl tc0_11)), (tb1_6, .inl (cs 0, 8192, .inl tc1_12)), (ti0_7, .inl (cs 1, 2001, .inr (.inl u0_13))), (ti1_8, .inl (cs 1, 2001, .inr (.inl u1_14))), (mst, .inl (cs 5, 2, .inr (.inr (.inr (.inr (va_up (va_up (fun _ => none) 0 (some st0_3)) 1 (some st1_4))))))), (st0_3, .inl (cs 0, 96048, .inl q0_9)), (hm, .inr (12, [.ref ms, .ref mkp, .int (nI 0), .ref mtr, .int (nI 4), .int (nI 2), .int (nI 2), .int (nI 3), .int (nI 2), .int (nI 1), .ref mas, .int (nI 0), .int (nI 0), .int (nI 0), .ref mso, .ref mon, .ref mot, .ref man, .int (nI 0), .int (nI 0), .ref mst, .ref msm, .ref mtb, .ref mti, .ref mfr, .ref mbn, .ref mbs, .ref mde, .int (nI 0), .int (nI 0), .int (nI 0), .int (nI 0), .long 0, .long 0, .ref maa, .ref mab, .ref mba, .ref mbb])), (mtr, .inl (cs 0, 288, .inl freshS)), (ms, .inl (cs 0, 288, .inl freshS))] := hD
      refine lv_lload hx hb dX12_counted_134 (lv_at hl 1 rfl) ?_
      exact xretl C () ((if_pos hy0).symm) (xP_map hP [] rfl) (hD.sub [] (by decide +kernel) rfl) hS (Nat.le_of_ble_eq_true rfl) (Nat.le_of_ble_eq_true rfl) dX12_counted_136
  · -- split
    replace hP : va_P D vwCl [(hm, .inr (12, [.ref ms, .ref mkp, .int (nI 0), .ref mtr, .int (nI 4), .int (nI 2), .int (nI 2), .int (nI 3), .int (nI 2), .int (nI 1), .ref mas, .int (nI 0), .int (nI 0), .int (nI 0), .ref mso, .ref mon, .ref mot, .ref man, .int (nI 0), .int (nI 0), .ref mst, .ref msm, .ref mtb, .ref mti, .ref mfr, .ref mbn, .ref mbs, .ref mde, .int (nI 0), .int (nI 0), .int (nI 0), .int (nI 0), .long 0, .long 0, .ref maa, .ref mab, .ref mba, .ref mbb])), (ms, .inl (cs 0, 288, .inl freshS)), (mtr, .inl (cs 0, 288, .inl freshS)), (msm, .inl (cs 0, 2, .inl (smF2 (nI 1) (nI 1)))), (mst, .inl (cs 5, 2, .inr (.inr (.inr (.inr (va_up (va_up (fun _ => none) 0 (some st0_3)) 1 (some st1_4))))))), (mtb, .inl (cs 5, 2, .inr (.inr (.inr (.inr (va_up (va_up (fun _ => none) 0 (some tb0_5)) 1 (some tb1_6))))))), (mti, .inl (cs 6, 2, .inr (.inr (.inr (.inr (va_up (va_up (fun _ => none) 0 (some ti0_7)) 1 (some ti1_8))))))), (st0_3, .inl (cs 0, 96048, .inl q0_9)), (st1_4, .inl (cs 0, 96048, .inl q1_10)), (tb0_5, .inl (cs 0, 8192, .inl tc0_11)), (tb1_6, .inl (cs 0, 8192, .inl tc1_12)), (ti0_7, .inl (cs 1, 2001, .inr (.inl u0_13))), (ti1_8, .inl (cs 1, 2001, .inr (.inl u1_14)))] H := hP
    replace hD : va_D A [(hm, .inr (12, [.ref ms, .ref mkp, .int (nI 0), .ref mtr, .int (nI 4), .int (nI 2), .int (nI 2), .int (nI 3), .int (nI 2), .int (nI 1), .ref mas, .int (nI 0), .int (nI 0), .int (nI 0), .ref mso, .ref mon, .ref mot, .ref man, .int (nI 0), .int (nI 0), .ref mst, .ref msm, .ref mtb, .ref mti, .ref mfr, .ref mbn, .ref mbs, .ref mde, .int (nI 0), .int (nI 0), .int (nI 0), .int (nI 0), .long 0, .long 0, .ref maa, .ref mab, .ref mba, .ref mbb])), (ms, .inl (cs 0, 288, .inl freshS)), (mtr, .inl (cs 0, 288, .inl freshS)), (msm, .inl (cs 0, 2, .inl (smF2 (nI 1) (nI 1)))), (mst, .inl (cs 5, 2, .inr (.inr (.inr (.inr (va_up (va_up (fun _ => none) 0 (some st0_3)) 1 (some st1_4))))))), (mtb, .inl (cs 5, 2, .inr (.inr (.inr (.inr (va_up (va_up (fun _ => none) 0 (some tb0_5)) 1 (some tb1_6))))))), (mti, .inl (cs 6, 2, .inr (.inr (.inr (.inr (va_up (va_up (fun _ => none) 0 (some ti0_7)) 1 (some ti1_8))))))), (st0_3, .inl (cs 0, 96048, .inl q0_9)), (st1_4, .inl (cs 0, 96048, .inl q1_10)), (tb0_5, .inl (cs 0, 8192, .inl tc0_11)), (tb1_6, .inl (cs 0, 8192, .inl tc1_12)), (ti0_7, .inl (cs 1, 2001, .inr (.inl u0_13))), (ti1_8, .inl (cs 1, 2001, .inr (.inl u1_14)))] := hD
    refine lv_istore (lv' := [(4, .int (nI 1)), (0, .ref hm), (1, .int (nI t)), (2, .int (nI 3)), (3, .int y)]) hx hb dX12_counted_5 hl (by decide) rfl ?_
    clear hl
    try clear ls
    intro ls hl
    refine lv_iload hx hb dX12_counted_7 (lv_at hl 0 rfl) ?_
    refine lv_if_ge (tgt := 16) hx hb dX12_counted_9 (by decide) (fun _ => ?_) (fun c => absurd (by decide) c)
    refine lv_aload_n hx hb dX12_counted_16 rfl (lv_at hl 1 rfl) ?_
    refine lv_aload_n hx hb dX12_counted_17 rfl (lv_at hl 1 rfl) ?_
    refine xget C hP 0 rfl rfl zuX12 0 (by decide) zw5_213 rfl dX12_counted_18 ?_
    refine lv_aload_n hx hb dX12_counted_21 rfl (lv_at hl 1 rfl) ?_
    refine xget C hP 0 rfl rfl zuX12 3 (by decide) zw5_216 rfl dX12_counted_22 ?_
    refine xv (wr := [(msm, .inl (cs 0, 2, .inl (smF2 (nI 1) (nI 1)))), (mst, .inl (cs 5, 2, .inr (.inr (.inr (.inr (va_up (va_up (fun _ => none) 0 (some st0_3)) 1 (some st1_4))))))), (mtb, .inl (cs 5, 2, .inr (.inr (.inr (.inr (va_up (va_up (fun _ => none) 0 (some tb0_5)) 1 (some tb1_6))))))), (mti, .inl (cs 6, 2, .inr (.inr (.inr (.inr (va_up (va_up (fun _ => none) 0 (some ti0_7)) 1 (some ti1_8))))))), (st0_3, .inl (cs 0, 96048, .inl q0_9)), (st1_4, .inl (cs 0, 96048, .inl q1_10)), (tb0_5, .inl (cs 0, 8192, .inl tc0_11)), (tb1_6, .inl (cs 0, 8192, .inl tc1_12)), (ti0_7, .inl (cs 1, 2001, .inr (.inl u0_13))), (ti1_8, .inl (cs 1, 2001, .inr (.inl u1_14)))]) (xV (As := [.ref ms, .ref mtr]) (rest := []) C (c_X12_puts_m l D cs hm ms mkp mtr mas mso mon mot man mst msm mtb mti mfr mbn mbs mde maa mab mba mbb ms mtr freshS freshS) kX12_148 hP hD [0, 1, 2] rfl (by decide +kernel) 0 rfl rfl rfl ⟨Nat.le_of_ble_eq_true rfl, Nat.le_of_ble_eq_true rfl⟩ rfl hl.1 rfl (Nat.le_of_ble_eq_true rfl) dX12_counted_25 ⟨Nat.le_of_ble_eq_true rfl, Nat.le_of_ble_eq_true rfl⟩) hP hD hS hA [0, 1, 2] [3, 4, 5, 6, 7, 8, 9, 10, 11, 12] rfl rfl (by decide +kernel) (by decide +kernel) ?_
    clear hP hD hS
    try clear locs
    try clear H
    intro u_29 H locs hw_r_28 hP hD hS
    refine W.widen (k := 6) (n := 212482) (Nat.le_of_ble_eq_true rfl) (Nat.le_of_ble_eq_true rfl) ?_
    replace hP : va_P D vwCl [(msm, .inl (cs 0, 2, .inl (smF2 (nI 1) (nI 1)))), (mst, .inl (cs 5, 2, .inr (.inr (.inr (.inr (va_up (va_up (fun _ => none) 0 (some st0_3)) 1 (some st1_4))))))), (mtb, .inl (cs 5, 2, .inr (.inr (.inr (.inr (va_up (va_up (fun _ => none) 0 (some tb0_5)) 1 (some tb1_6))))))), (mti, .inl (cs 6, 2, .inr (.inr (.inr (.inr (va_up (va_up (fun _ => none) 0 (some ti0_7)) 1 (some ti1_8))))))), (st0_3, .inl (cs 0, 96048, .inl q0_9)), (st1_4, .inl (cs 0, 96048, .inl q1_10)), (tb0_5, .inl (cs 0, 8192, .inl tc0_11)), (tb1_6, .inl (cs 0, 8192, .inl tc1_12)), (ti0_7, .inl (cs 1, 2001, .inr (.inl u0_13))), (ti1_8, .inl (cs 1, 2001, .inr (.inl u1_14))), (hm, .inr (12, [.ref ms, .ref mkp, .int (nI 0), .ref mtr, .int (nI 4), .int (nI 2), .int (nI 2), .int (nI 3), .int (nI 2), .int (nI 1), .ref mas, .int (nI 0), .int (nI 0), .int (nI 0), .ref mso, .ref mon, .ref mot, .ref man, .int (nI 0), .int (nI 0), .ref mst, .ref msm, .ref mtb, .ref mti, .ref mfr, .ref mbn, .ref mbs, .ref mde, .int (nI 0), .int (nI 0), .int (nI 0), .int (nI 0), .long 0, .long 0, .ref maa, .ref mab, .ref mba, .ref mbb])), (ms, .inl (cs 0, 288, .inl freshS)), (mtr, .inl (cs 0, 288, .inl freshS))] H := hP
    replace hD : va_D A [(msm, .inl (cs 0, 2, .inl (smF2 (nI 1) (nI 1)))), (mst, .inl (cs 5, 2, .inr (.inr (.inr (.inr (va_up (va_up (fun _ => none) 0 (some st0_3)) 1 (some st1_4))))))), (mtb, .inl (cs 5, 2, .inr (.inr (.inr (.inr (va_up (va_up (fun _ => none) 0 (some tb0_5)) 1 (some tb1_6))))))), (mti, .inl (cs 6, 2, .inr (.inr (.inr (.inr (va_up (va_up (fun _ => none) 0 (some ti0_7)) 1 (some ti1_8))))))), (st0_3, .inl (cs 0, 96048, .inl q0_9)), (st1_4, .inl (cs 0, 96048, .inl q1_10)), (tb0_5, .inl (cs 0, 8192, .inl tc0_11)), (tb1_6, .inl (cs 0, 8192, .inl tc1_12)), (ti0_7, .inl (cs 1, 2001, .inr (.inl u0_13))), (ti1_8, .inl (cs 1, 2001, .inr (.inl u1_14))), (hm, .inr (12, [.ref ms, .ref mkp, .int (nI 0), .ref mtr, .int (nI 4), .int (nI 2), .int (nI 2), .int (nI 3), .int (nI 2), .int (nI 1), .ref mas, .int (nI 0), .int (nI 0), .int (nI 0), .ref mso, .ref mon, .ref mot, .ref man, .int (nI 0), .int (nI 0), .ref mst, .ref msm, .ref mtb, .ref mti, .ref mfr, .ref mbn, .ref mbs, .ref mde, .int (nI 0), .int (nI 0), .int (nI 0), .int (nI 0), .long 0, .long 0, .ref maa, .ref mab, .ref mba, .ref mbb])), (ms, .inl (cs 0, 288, .inl freshS)), (mtr, .inl (cs 0, 288, .inl freshS))] := hD
    refine lv_lconst (v := 0) hx hb dX12_counted_28 (by decide) ?_
    refine lv_lstore (lv' := [(5, .long 0), (4, .int (nI 1)), (0, .ref hm), (1, .int (nI t)), (2, .int (nI 3)), (3, .int y)]) hx hb dX12_counted_29 hl (by decide) rfl ?_
    clear hl
    try clear ls
    intro ls hl
    refine lv_iconst (v := nI 0) hx hb dX12_counted_31 (by decide) ?_
    refine lv_istore (lv' := [(7, .int (nI 0)), (5, .long 0), (4, .int (nI 1)), (0, .ref hm), (1, .int (nI t)), (2, .int (nI 3)), (3, .int y)]) hx hb dX12_counted_32 hl (by decide) rfl ?_
    clear hl
    try clear ls
    intro ls hl
    refine lv_iload hx hb dX12_counted_34 (lv_at hl 0 rfl) ?_
    refine lv_aload_n hx hb dX12_counted_36 rfl (lv_at hl 3 rfl) ?_
    refine xget C hP 10 rfl rfl zuX12 21 (by decide) zw5_234 rfl dX12_counted_37 ?_
    refine lv_iload hx hb dX12_counted_40 (lv_at hl 2 rfl) ?_
    refine xiald C hP 0 rfl 1 rfl (by decide) (by decide) dX12_counted_42 ?_
    refine lv_topi (nm_r (e' := nI 1) (by decide) ?_)
    refine lv_icmp_ge (tgt := 122) hx hb dX12_counted_43 (by decide) (fun c => absurd c (by decide)) (fun _ => ?_)
    refine lv_aload_n hx hb dX12_counted_46 rfl (lv_at hl 3 rfl) ?_
    refine lv_iload hx hb dX12_counted_47 (lv_at hl 2 rfl) ?_
    refine lv_iload hx hb dX12_counted_49 (lv_at hl 0 rfl) ?_
    refine xv (wr := [(msm, .inl (cs 0, 2, .inl (smF2 (nI 1) (nI 1)))), (mtb, .inl (cs 5, 2, .inr (.inr (.inr (.inr (va_up (va_up (fun _ => none) 0 (some tb0_5)) 1 (some tb1_6))))))), (mti, .inl (cs 6, 2, .inr (.inr (.inr (.inr (va_up (va_up (fun _ => none) 0 (some ti0_7)) 1 (some ti1_8))))))), (st0_3, .inl (cs 0, 96048, .inl q0_9)), (tb0_5, .inl (cs 0, 8192, .inl tc0_11)), (tb1_6, .inl (cs 0, 8192, .inl tc1_12)), (ti0_7, .inl (cs 1, 2001, .inr (.inl u0_13))), (ti1_8, .inl (cs 1, 2001, .inr (.inl u1_14))), (mtr, .inl (cs 0, 288, .inl freshS))]) (xV (As := [.int (nI 1), .int (nI 0)]) (rest := []) C (c_X12_brings_1 l D cs hm ms mkp mtr mas mso mon mot man mst msm mtb mti mfr mbn mbs mde maa mab mba mbb st1_4 (va_up (va_up (fun _ => none) 0 (some st0_3)) 1 (some st1_4)) q1_10 rfl hq) kX12_203 hP hD [10, 11, 1, 5] rfl (by decide +kernel) 0 rfl rfl rfl ⟨Nat.le_of_ble_eq_true rfl, Nat.le_of_ble_eq_true rfl⟩ rfl hl.1 rfl (Nat.le_of_ble_eq_true rfl) dX12_counted_51 ⟨Nat.le_of_ble_eq_true rfl, Nat.le_of_ble_eq_true rfl⟩) hP hD hS hA [10, 11, 1, 5] [0, 2, 3, 4, 6, 7, 8, 9, 12] rfl rfl (by decide +kernel) (by decide +kernel) ?_
    clear hP hD hS
    try clear locs
    try clear H
    intro u_31 H locs hw_r_30 hP hD hS
    refine W.widen (k := 6) (n := 212482) (Nat.le_of_ble_eq_true rfl) (Nat.le_of_ble_eq_true rfl) ?_
    replace hP : va_P D vwCl [(msm, .inl (cs 0, 2, .inl (smF2 (nI 1) (nI 1)))), (mtb, .inl (cs 5, 2, .inr (.inr (.inr (.inr (va_up (va_up (fun _ => none) 0 (some tb0_5)) 1 (some tb1_6))))))), (mti, .inl (cs 6, 2, .inr (.inr (.inr (.inr (va_up (va_up (fun _ => none) 0 (some ti0_7)) 1 (some ti1_8))))))), (st0_3, .inl (cs 0, 96048, .inl q0_9)), (tb0_5, .inl (cs 0, 8192, .inl tc0_11)), (tb1_6, .inl (cs 0, 8192, .inl tc1_12)), (ti0_7, .inl (cs 1, 2001, .inr (.inl u0_13))), (ti1_8, .inl (cs 1, 2001, .inr (.inl u1_14))), (mtr, .inl (cs 0, 288, .inl freshS)), (hm, .inr (12, [.ref ms, .ref mkp, .int (nI 0), .ref mtr, .int (nI 4), .int (nI 2), .int (nI 2), .int (nI 3), .int (nI 2), .int (nI 1), .ref mas, .int (nI 0), .int (nI 0), .int (nI 0), .ref mso, .ref mon, .ref mot, .ref man, .int (nI 0), .int (nI 0), .ref mst, .ref msm, .ref mtb, .ref mti, .ref mfr, .ref mbn, .ref mbs, .ref mde, .int (nI 0), .int (nI 0), .int (nI 0), .int (nI 0), .long 0, .long 0, .ref maa, .ref mab, .ref mba, .ref mbb])), (ms, .inl (cs 0, 288, .inl freshS)), (mst, .inl (cs 5, 2, .inr (.inr (.inr (.inr (va_up (va_up (fun _ => none) 0 (some st0_3)) 1 (some st1_4))))))), (st1_4, .inl (cs 0, 96048, .inl q1_10))] H := hP
    replace hD : va_D A [(msm, .inl (cs 0, 2, .inl (smF2 (nI 1) (nI 1)))), (mtb, .inl (cs 5, 2, .inr (.inr (.inr (.inr (va_up (va_up (fun _ => none) 0 (some tb0_5)) 1 (some tb1_6))))))), (mti, .inl (cs 6, 2, .inr (.inr (.inr (.inr (va_up (va_up (fun _ => none) 0 (some ti0_7)) 1 (some ti1_8))))))), (st0_3, .inl (cs 0, 96048, .inl q0_9)), (tb0_5, .inl (cs 0, 8192, .inl tc0_11)), (tb1_6, .inl (cs 0, 8192, .inl tc1_12)), (ti0_7, .inl (cs 1, 2001, .inr (.inl u0_13))), (ti1_8, .inl (cs 1, 2001, .inr (.inl u1_14))), (mtr, .inl (cs 0, 288, .inl freshS)), (hm, .inr (12, [.ref ms, .ref mkp, .int (nI 0), .ref mtr, .int (nI 4), .int (nI 2), .int (nI 2), .int (nI 3), .int (nI 2), .int (nI 1), .ref mas, .int (nI 0), .int (nI 0), .int (nI 0), .ref mso, .ref mon, .ref mot, .ref man, .int (nI 0), .int (nI 0), .ref mst, .ref msm, .ref mtb, .ref mti, .ref mfr, .ref mbn, .ref mbs, .ref mde, .int (nI 0), .int (nI 0), .int (nI 0), .int (nI 0), .long 0, .long 0, .ref maa, .ref mab, .ref mba, .ref mbb])), (ms, .inl (cs 0, 288, .inl freshS)), (mst, .inl (cs 5, 2, .inr (.inr (.inr (.inr (va_up (va_up (fun _ => none) 0 (some st0_3)) 1 (some st1_4))))))), (st1_4, .inl (cs 0, 96048, .inl q1_10))] := hD
    refine lv_iload_n hx hb dX12_counted_54 rfl (lv_at hl 5 rfl) ?_
    refine lv_iconst (v := nI 1) hx hb dX12_counted_55 (by decide) ?_
    refine lv_icmp_ne (tgt := 66) hx hb dX12_counted_56 (by decide) (fun _ => ?_) (fun c => absurd c (by decide))
    refine lv_iload_n hx hb dX12_counted_66 rfl (lv_at hl 5 rfl) ?_
    refine lv_iconst (v := nI 2) hx hb dX12_counted_67 (by decide) ?_
    refine lv_icmp_ne (tgt := 78) hx hb dX12_counted_68 (by decide) (fun _ => ?_) (fun c => absurd c (by decide))
    refine lv_aload_n hx hb dX12_counted_78 rfl (lv_at hl 3 rfl) ?_
    refine xi (wr := [(msm, .inl (cs 0, 2, .inl (smF2 (nI 1) (nI 1)))), (mtb, .inl (cs 5, 2, .inr (.inr (.inr (.inr (va_up (va_up (fun _ => none) 0 (some tb0_5)) 1 (some tb1_6))))))), (mti, .inl (cs 6, 2, .inr (.inr (.inr (.inr (va_up (va_up (fun _ => none) 0 (some ti0_7)) 1 (some ti1_8))))))), (st0_3, .inl (cs 0, 96048, .inl q0_9)), (tb0_5, .inl (cs 0, 8192, .inl tc0_11)), (tb1_6, .inl (cs 0, 8192, .inl tc1_12)), (ti0_7, .inl (cs 1, 2001, .inr (.inl u0_13))), (ti1_8, .inl (cs 1, 2001, .inr (.inl u1_14))), (mtr, .inl (cs 0, 288, .inl freshS)), (mst, .inl (cs 5, 2, .inr (.inr (.inr (.inr (va_up (va_up (fun _ => none) 0 (some st0_3)) 1 (some st1_4))))))), (st1_4, .inl (cs 0, 96048, .inl q1_10))]) (xV (As := []) (rest := []) C (c_X12_coloured_z l D cs hm ms mkp mtr mas mso mon mot man mst msm mtb mti mfr mbn mbs mde maa mab mba mbb) kX12_218 hP hD [9, 10] rfl (by decide +kernel) 0 rfl rfl rfl ⟨Nat.le_of_ble_eq_true rfl, Nat.le_of_ble_eq_true rfl⟩ rfl hl.1 rfl (Nat.le_of_ble_eq_true rfl) dX12_counted_79 ⟨Nat.le_of_ble_eq_true rfl, Nat.le_of_ble_eq_true rfl⟩) hP hD hS hA [9, 10] [0, 1, 2, 3, 4, 5, 6, 7, 8, 11, 12] rfl rfl (by decide +kernel) (by decide +kernel) ?_
    clear hP hD hS
    try clear locs
    try clear H
    intro r_32 u_33 H locs hw_r_32 hP hD hS
    have hw_r_32 : r_32 = nI 0 := hw_r_32
    refine W.widen (k := 6) (n := 212482) (Nat.le_of_ble_eq_true rfl) (Nat.le_of_ble_eq_true rfl) ?_
    replace hP : va_P D vwCl [(msm, .inl (cs 0, 2, .inl (smF2 (nI 1) (nI 1)))), (mtb, .inl (cs 5, 2, .inr (.inr (.inr (.inr (va_up (va_up (fun _ => none) 0 (some tb0_5)) 1 (some tb1_6))))))), (mti, .inl (cs 6, 2, .inr (.inr (.inr (.inr (va_up (va_up (fun _ => none) 0 (some ti0_7)) 1 (some ti1_8))))))), (st0_3, .inl (cs 0, 96048, .inl q0_9)), (tb0_5, .inl (cs 0, 8192, .inl tc0_11)), (tb1_6, .inl (cs 0, 8192, .inl tc1_12)), (ti0_7, .inl (cs 1, 2001, .inr (.inl u0_13))), (ti1_8, .inl (cs 1, 2001, .inr (.inl u1_14))), (mtr, .inl (cs 0, 288, .inl freshS)), (mst, .inl (cs 5, 2, .inr (.inr (.inr (.inr (va_up (va_up (fun _ => none) 0 (some st0_3)) 1 (some st1_4))))))), (st1_4, .inl (cs 0, 96048, .inl q1_10)), (hm, .inr (12, [.ref ms, .ref mkp, .int (nI 0), .ref mtr, .int (nI 4), .int (nI 2), .int (nI 2), .int (nI 3), .int (nI 2), .int (nI 1), .ref mas, .int (nI 0), .int (nI 0), .int (nI 0), .ref mso, .ref mon, .ref mot, .ref man, .int (nI 0), .int (nI 0), .ref mst, .ref msm, .ref mtb, .ref mti, .ref mfr, .ref mbn, .ref mbs, .ref mde, .int (nI 0), .int (nI 0), .int (nI 0), .int (nI 0), .long 0, .long 0, .ref maa, .ref mab, .ref mba, .ref mbb])), (ms, .inl (cs 0, 288, .inl freshS))] H := hP
    replace hD : va_D A [(msm, .inl (cs 0, 2, .inl (smF2 (nI 1) (nI 1)))), (mtb, .inl (cs 5, 2, .inr (.inr (.inr (.inr (va_up (va_up (fun _ => none) 0 (some tb0_5)) 1 (some tb1_6))))))), (mti, .inl (cs 6, 2, .inr (.inr (.inr (.inr (va_up (va_up (fun _ => none) 0 (some ti0_7)) 1 (some ti1_8))))))), (st0_3, .inl (cs 0, 96048, .inl q0_9)), (tb0_5, .inl (cs 0, 8192, .inl tc0_11)), (tb1_6, .inl (cs 0, 8192, .inl tc1_12)), (ti0_7, .inl (cs 1, 2001, .inr (.inl u0_13))), (ti1_8, .inl (cs 1, 2001, .inr (.inl u1_14))), (mtr, .inl (cs 0, 288, .inl freshS)), (mst, .inl (cs 5, 2, .inr (.inr (.inr (.inr (va_up (va_up (fun _ => none) 0 (some st0_3)) 1 (some st1_4))))))), (st1_4, .inl (cs 0, 96048, .inl q1_10)), (hm, .inr (12, [.ref ms, .ref mkp, .int (nI 0), .ref mtr, .int (nI 4), .int (nI 2), .int (nI 2), .int (nI 3), .int (nI 2), .int (nI 1), .ref mas, .int (nI 0), .int (nI 0), .int (nI 0), .ref mso, .ref mon, .ref mot, .ref man, .int (nI 0), .int (nI 0), .ref mst, .ref msm, .ref mtb, .ref mti, .ref mfr, .ref mbn, .ref mbs, .ref mde, .int (nI 0), .int (nI 0), .int (nI 0), .int (nI 0), .long 0, .long 0, .ref maa, .ref mab, .ref mba, .ref mbb])), (ms, .inl (cs 0, 288, .inl freshS))] := hD
    subst hw_r_32
    refine xi (wr := [(msm, .inl (cs 0, 2, .inl (smF2 (nI 1) (nI 1)))), (mtb, .inl (cs 5, 2, .inr (.inr (.inr (.inr (va_up (va_up (fun _ => none) 0 (some tb0_5)) 1 (some tb1_6))))))), (mti, .inl (cs 6, 2, .inr (.inr (.inr (.inr (va_up (va_up (fun _ => none) 0 (some ti0_7)) 1 (some ti1_8))))))), (st0_3, .inl (cs 0, 96048, .inl q0_9)), (tb0_5, .inl (cs 0, 8192, .inl tc0_11)), (tb1_6, .inl (cs 0, 8192, .inl tc1_12)), (ti0_7, .inl (cs 1, 2001, .inr (.inl u0_13))), (ti1_8, .inl (cs 1, 2001, .inr (.inl u1_14))), (mtr, .inl (cs 0, 288, .inl freshS)), (mst, .inl (cs 5, 2, .inr (.inr (.inr (.inr (va_up (va_up (fun _ => none) 0 (some st0_3)) 1 (some st1_4))))))), (st1_4, .inl (cs 0, 96048, .inl q1_10)), (hm, .inr (12, [.ref ms, .ref mkp, .int (nI 0), .ref mtr, .int (nI 4), .int (nI 2), .int (nI 2), .int (nI 3), .int (nI 2), .int (nI 1), .ref mas, .int (nI 0), .int (nI 0), .int (nI 0), .ref mso, .ref mon, .ref mot, .ref man, .int (nI 0), .int (nI 0), .ref mst, .ref msm, .ref mtb, .ref mti, .ref mfr, .ref mbn, .ref mbs, .ref mde, .int (nI 0), .int (nI 0), .int (nI 0), .int (nI 0), .long 0, .long 0, .ref maa, .ref mab, .ref mba, .ref mbb])), (ms, .inl (cs 0, 288, .inl freshS))]) (xS (As := [.int (nI 0)]) (rest := []) C (c_X12_many_z l D cs 0) kX12_127 hP hD [] rfl (by decide +kernel) ⟨Nat.le_of_ble_eq_true rfl, Nat.le_of_ble_eq_true rfl⟩ rfl hl.1 rfl (Nat.le_of_ble_eq_true rfl) dX12_counted_82 ⟨Nat.le_of_ble_eq_true rfl, Nat.le_of_ble_eq_true rfl⟩) hP hD hS hA [] [0, 1, 2, 3, 4, 5, 6, 7, 8, 9, 10, 11, 12] rfl rfl (by decide +kernel) (by decide +kernel) ?_
    clear hP hD hS
    try clear locs
    try clear H
    intro r_34 u_35 H locs hw_r_34 hP hD hS
    have hw_r_34 : r_34 = nI 0 := hw_r_34
    refine W.widen (k := 6) (n := 212482) (Nat.le_of_ble_eq_true rfl) (Nat.le_of_ble_eq_true rfl) ?_
    replace hP : va_P D vwCl [(msm, .inl (cs 0, 2, .inl (smF2 (nI 1) (nI 1)))), (mtb, .inl (cs 5, 2, .inr (.inr (.inr (.inr (va_up (va_up (fun _ => none) 0 (some tb0_5)) 1 (some tb1_6))))))), (mti, .inl (cs 6, 2, .inr (.inr (.inr (.inr (va_up (va_up (fun _ => none) 0 (some ti0_7)) 1 (some ti1_8))))))), (st0_3, .inl (cs 0, 96048, .inl q0_9)), (tb0_5, .inl (cs 0, 8192, .inl tc0_11)), (tb1_6, .inl (cs 0, 8192, .inl tc1_12)), (ti0_7, .inl (cs 1, 2001, .inr (.inl u0_13))), (ti1_8, .inl (cs 1, 2001, .inr (.inl u1_14))), (mtr, .inl (cs 0, 288, .inl freshS)), (mst, .inl (cs 5, 2, .inr (.inr (.inr (.inr (va_up (va_up (fun _ => none) 0 (some st0_3)) 1 (some st1_4))))))), (st1_4, .inl (cs 0, 96048, .inl q1_10)), (hm, .inr (12, [.ref ms, .ref mkp, .int (nI 0), .ref mtr, .int (nI 4), .int (nI 2), .int (nI 2), .int (nI 3), .int (nI 2), .int (nI 1), .ref mas, .int (nI 0), .int (nI 0), .int (nI 0), .ref mso, .ref mon, .ref mot, .ref man, .int (nI 0), .int (nI 0), .ref mst, .ref msm, .ref mtb, .ref mti, .ref mfr, .ref mbn, .ref mbs, .ref mde, .int (nI 0), .int (nI 0), .int (nI 0), .int (nI 0), .long 0, .long 0, .ref maa, .ref mab, .ref mba, .ref mbb])), (ms, .inl (cs 0, 288, .inl freshS))] H := hP
    replace hD : va_D A [(msm, .inl (cs 0, 2, .inl (smF2 (nI 1) (nI 1)))), (mtb, .inl (cs 5, 2, .inr (.inr (.inr (.inr (va_up (va_up (fun _ => none) 0 (some tb0_5)) 1 (some tb1_6))))))), (mti, .inl (cs 6, 2, .inr (.inr (.inr (.inr (va_up (va_up (fun _ => none) 0 (some ti0_7)) 1 (some ti1_8))))))), (st0_3, .inl (cs 0, 96048, .inl q0_9)), (tb0_5, .inl (cs 0, 8192, .inl tc0_11)), (tb1_6, .inl (cs 0, 8192, .inl tc1_12)), (ti0_7, .inl (cs 1, 2001, .inr (.inl u0_13))), (ti1_8, .inl (cs 1, 2001, .inr (.inl u1_14))), (mtr, .inl (cs 0, 288, .inl freshS)), (mst, .inl (cs 5, 2, .inr (.inr (.inr (.inr (va_up (va_up (fun _ => none) 0 (some st0_3)) 1 (some st1_4))))))), (st1_4, .inl (cs 0, 96048, .inl q1_10)), (hm, .inr (12, [.ref ms, .ref mkp, .int (nI 0), .ref mtr, .int (nI 4), .int (nI 2), .int (nI 2), .int (nI 3), .int (nI 2), .int (nI 1), .ref mas, .int (nI 0), .int (nI 0), .int (nI 0), .ref mso, .ref mon, .ref mot, .ref man, .int (nI 0), .int (nI 0), .ref mst, .ref msm, .ref mtb, .ref mti, .ref mfr, .ref mbn, .ref mbs, .ref mde, .int (nI 0), .int (nI 0), .int (nI 0), .int (nI 0), .long 0, .long 0, .ref maa, .ref mab, .ref mba, .ref mbb])), (ms, .inl (cs 0, 288, .inl freshS))] := hD
    subst hw_r_34
    refine lv_iload_n hx hb dX12_counted_85 rfl (lv_at hl 6 rfl) ?_
    refine lv_icmp_ne (tgt := 93) hx hb dX12_counted_86 (by decide) (fun c_36 => ?_) (fun c_36 => ?_)
    · -- 86 t
      have hy0 : ¬ y = 0 := fun q => c_36 q.symm
      refine lv_iconst (v := nI 0) hx hb dX12_counted_93 (by decide) ?_
      refine lv_istore (lv' := [(8, .int (nI 0)), (7, .int (nI 0)), (5, .long 0), (4, .int (nI 1)), (0, .ref hm), (1, .int (nI t)), (2, .int (nI 3)), (3, .int y)]) hx hb dX12_counted_94 hl (by decide) rfl ?_
      clear hl
      try clear ls
      intro ls hl
      refine lv_iload hx hb dX12_counted_96 (lv_at hl 0 rfl) ?_
      refine lv_if_eq (tgt := 116) hx hb dX12_counted_98 (by decide) (fun _ => ?_) (fun c => absurd (by decide) c)
      refine lv_iinc (v := nI 1) (lv' := [(7, .int (nI 1)), (8, .int (nI 0)), (5, .long 0), (4, .int (nI 1)), (0, .ref hm), (1, .int (nI t)), (2, .int (nI 3)), (3, .int y)]) hx hb dX12_counted_116 hl (k := 1) rfl (by decide) (by decide) rfl ?_
      clear hl
      try clear ls
      intro ls hl
      refine lv_goto (tgt := 34) hx hb dX12_counted_119 (by decide) ?_
      refine lv_iload hx hb dX12_counted_34 (lv_at hl 0 rfl) ?_
      refine lv_aload_n hx hb dX12_counted_36 rfl (lv_at hl 4 rfl) ?_
      refine xget C hP 11 rfl rfl zuX12 21 (by decide) zw5_234 rfl dX12_counted_37 ?_
      refine lv_iload hx hb dX12_counted_40 (lv_at hl 3 rfl) ?_
      refine xiald C hP 0 rfl 1 rfl (by decide) (by decide) dX12_counted_42 ?_
      refine lv_topi (nm_r (e' := nI 1) (by decide) ?_)
      refine lv_icmp_ge (tgt := 122) hx hb dX12_counted_43 (by decide) (fun _ => ?_) (fun c => absurd (by decide) c)
      refine lv_aload_n hx hb dX12_counted_122 rfl (lv_at hl 4 rfl) ?_
      refine lv_aload_n hx hb dX12_counted_123 rfl (lv_at hl 4 rfl) ?_
      refine xget C hP 11 rfl rfl zuX12 3 (by decide) zw5_216 rfl dX12_counted_124 ?_
      refine lv_aload_n hx hb dX12_counted_127 rfl (lv_at hl 4 rfl) ?_
      refine xget C hP 11 rfl rfl zuX12 0 (by decide) zw5_213 rfl dX12_counted_128 ?_
      refine xv (wr := [(msm, .inl (cs 0, 2, .inl (smF2 (nI 1) (nI 1)))), (mtb, .inl (cs 5, 2, .inr (.inr (.inr (.inr (va_up (va_up (fun _ => none) 0 (some tb0_5)) 1 (some tb1_6))))))), (mti, .inl (cs 6, 2, .inr (.inr (.inr (.inr (va_up (va_up (fun _ => none) 0 (some ti0_7)) 1 (some ti1_8))))))), (st0_3, .inl (cs 0, 96048, .inl q0_9)), (tb0_5, .inl (cs 0, 8192, .inl tc0_11)), (tb1_6, .inl (cs 0, 8192, .inl tc1_12)), (ti0_7, .inl (cs 1, 2001, .inr (.inl u0_13))), (ti1_8, .inl (cs 1, 2001, .inr (.inl u1_14))), (mst, .inl (cs 5, 2, .inr (.inr (.inr (.inr (va_up (va_up (fun _ => none) 0 (some st0_3)) 1 (some st1_4))))))), (st1_4, .inl (cs 0, 96048, .inl q1_10))]) (xV (As := [.ref mtr, .ref ms]) (rest := []) C (c_X12_puts_m l D cs hm ms mkp mtr mas mso mon mot man mst msm mtb mti mfr mbn mbs mde maa mab mba mbb mtr ms freshS freshS) kX12_148 hP hD [11, 8, 12] rfl (by decide +kernel) 0 rfl rfl rfl ⟨Nat.le_of_ble_eq_true rfl, Nat.le_of_ble_eq_true rfl⟩ rfl hl.1 rfl (Nat.le_of_ble_eq_true rfl) dX12_counted_131 ⟨Nat.le_of_ble_eq_true rfl, Nat.le_of_ble_eq_true rfl⟩) hP hD hS hA [11, 8, 12] [0, 1, 2, 3, 4, 5, 6, 7, 9, 10] rfl rfl (by decide +kernel) (by decide +kernel) ?_
      clear hP hD hS
      try clear locs
      try clear H
      intro u_38 H locs hw_r_37 hP hD hS
      refine W.widen (k := 6) (n := 212482) (Nat.le_of_ble_eq_true rfl) (Nat.le_of_ble_eq_true rfl) ?_
      replace hP : va_P D vwCl [(msm, .inl (cs 0, 2, .inl (smF2 (nI 1) (nI 1)))), (mtb, .inl (cs 5, 2, .inr (.inr (.inr (.inr (va_up (va_up (fun _ => none) 0 (some tb0_5)) 1 (some tb1_6))))))), (mti, .inl (cs 6, 2, .inr (.inr (.inr (.inr (va_up (va_up (fun _ => none) 0 (some ti0_7)) 1 (some ti1_8))))))), (st0_3, .inl (cs 0, 96048, .inl q0_9)), (tb0_5, .inl (cs 0, 8192, .inl tc0_11)), (tb1_6, .inl (cs 0, 8192, .inl tc1_12)), (ti0_7, .inl (cs 1, 2001, .inr (.inl u0_13))), (ti1_8, .inl (cs 1, 2001, .inr (.inl u1_14))), (mst, .inl (cs 5, 2, .inr (.inr (.inr (.inr (va_up (va_up (fun _ => none) 0 (some st0_3)) 1 (some st1_4))))))), (st1_4, .inl (cs 0, 96048, .inl q1_10)), (hm, .inr (12, [.ref ms, .ref mkp, .int (nI 0), .ref mtr, .int (nI 4), .int (nI 2), .int (nI 2), .int (nI 3), .int (nI 2), .int (nI 1), .ref mas, .int (nI 0), .int (nI 0), .int (nI 0), .ref mso, .ref mon, .ref mot, .ref man, .int (nI 0), .int (nI 0), .ref mst, .ref msm, .ref mtb, .ref mti, .ref mfr, .ref mbn, .ref mbs, .ref mde, .int (nI 0), .int (nI 0), .int (nI 0), .int (nI 0), .long 0, .long 0, .ref maa, .ref mab, .ref mba, .ref mbb])), (mtr, .inl (cs 0, 288, .inl freshS)), (ms, .inl (cs 0, 288, .inl freshS))] H := hP
      replace hD : va_D A [(msm, .inl (cs 0, 2, .inl (smF2 (nI 1) (nI 1)))), (mtb, .inl (cs 5, 2, .inr (.inr (.inr (.inr (va_up (va_up (fun _ => none) 0 (some tb0_5)) 1 (some tb1_6))))))), (mti, .inl (cs 6, 2, .inr (.inr (.inr (.inr (va_up (va_up (fun _ => none) 0 (some ti0_7)) 1 (some ti1_8))))))), (st0_3, .inl (cs 0, 96048, .inl q0_9)), (tb0_5, .inl (cs 0, 8192, .inl tc0_11)), (tb1_6, .inl (cs 0, 8192, .inl tc1_12)), (ti0_7, .inl (cs 1, 2001, .inr (.inl u0_13))), (ti1_8, .inl (cs 1, 2001, .inr (.inl u1_14))), (mst, .inl (cs 5, 2, .inr (.inr (.inr (.inr (va_up (va_up (fun _ => none) 0 (some st0_3)) 1 (some st1_4))))))), (st1_4, .inl (cs 0, 96048, .inl q1_10)), (hm, .inr (12, [.ref ms, .ref mkp, .int (nI 0), .ref mtr, .int (nI 4), .int (nI 2), .int (nI 2), .int (nI 3), .int (nI 2), .int (nI 1), .ref mas, .int (nI 0), .int (nI 0), .int (nI 0), .ref mso, .ref mon, .ref mot, .ref man, .int (nI 0), .int (nI 0), .ref mst, .ref msm, .ref mtb, .ref mti, .ref mfr, .ref mbn, .ref mbs, .ref mde, .int (nI 0), .int (nI 0), .int (nI 0), .int (nI 0), .long 0, .long 0, .ref maa, .ref mab, .ref mba, .ref mbb])), (mtr, .inl (cs 0, 288, .inl freshS)), (ms, .inl (cs 0, 288, .inl freshS))] := hD
      refine lv_lload hx hb dX12_counted_134 (lv_at hl 2 rfl) ?_
      exact xretl C () ((if_neg hy0).symm) (xP_map hP [] rfl) (hD.sub [] (by decide +kernel) rfl) hS (Nat.le_of_ble_eq_true rfl) (Nat.le_of_ble_eq_true rfl) dX12_counted_136
    · -- 86 f
      have hy0 : y = 0 := Eq.symm c_36
      refine lv_iconst (v := nI 1) hx hb dX12_counted_89 (by decide) ?_
      refine lv_goto (tgt := 94) hx hb dX12_counted_90 (by decide) ?_
      refine lv_istore (lv' := [(8, .int (nI 1)), (7, .int (nI 0)), (5, .long 0), (4, .int (nI 1)), (0, .ref hm), (1, .int (nI t)), (2, .int (nI 3)), (3, .int y)]) hx hb dX12_counted_94 hl (by decide) rfl ?_
      clear hl
      try clear ls
      intro ls hl
      refine lv_iload hx hb dX12_counted_96 (lv_at hl 0 rfl) ?_
      refine lv_if_eq (tgt := 116) hx hb dX12_counted_98 (by decide) (fun c => absurd c (by decide)) (fun _ => ?_)
      refine lv_lload hx hb dX12_counted_101 (lv_at hl 2 rfl) ?_
      refine lv_aload_n hx hb dX12_counted_103 rfl (lv_at hl 4 rfl) ?_
      refine xget C hP 11 rfl rfl zuX12 23 (by decide) zw5_236 rfl dX12_counted_104 ?_
      refine lv_iload hx hb dX12_counted_107 (lv_at hl 3 rfl) ?_
      refine xaald C hP 2 6 rfl rfl rfl 1 rfl (by decide) (by decide) rfl dX12_counted_109 ?_
      refine lv_iload hx hb dX12_counted_110 (lv_at hl 1 rfl) ?_
      refine xlald C hP 7 rfl 0 rfl (by decide) (by decide) dX12_counted_112 ?_
      refine lv_ladd hx hb dX12_counted_113 ?_
      refine lv_topl (nm_r (e' := lN (12 ^ t)) (by rw [hu, Int64.zero_add]) ?_)
      refine lv_lstore (lv' := [(5, .long (lN (12 ^ t))), (8, .int (nI 1)), (7, .int (nI 0)), (4, .int (nI 1)), (0, .ref hm), (1, .int (nI t)), (2, .int (nI 3)), (3, .int y)]) hx hb dX12_counted_114 hl (by decide) rfl ?_
      clear hl
      try clear ls
      intro ls hl
      refine lv_iinc (v := nI 1) (lv' := [(7, .int (nI 1)), (5, .long (lN (12 ^ t))), (8, .int (nI 1)), (4, .int (nI 1)), (0, .ref hm), (1, .int (nI t)), (2, .int (nI 3)), (3, .int y)]) hx hb dX12_counted_116 hl (k := 2) rfl (by decide) (by decide) rfl ?_
      clear hl
      try clear ls
      intro ls hl
      refine lv_goto (tgt := 34) hx hb dX12_counted_119 (by decide) ?_
      refine lv_iload hx hb dX12_counted_34 (lv_at hl 0 rfl) ?_
      refine lv_aload_n hx hb dX12_counted_36 rfl (lv_at hl 4 rfl) ?_
      refine xget C hP 11 rfl rfl zuX12 21 (by decide) zw5_234 rfl dX12_counted_37 ?_
      refine lv_iload hx hb dX12_counted_40 (lv_at hl 3 rfl) ?_
      refine xiald C hP 0 rfl 1 rfl (by decide) (by decide) dX12_counted_42 ?_
      refine lv_topi (nm_r (e' := nI 1) (by decide) ?_)
      refine lv_icmp_ge (tgt := 122) hx hb dX12_counted_43 (by decide) (fun _ => ?_) (fun c => absurd (by decide) c)
      refine lv_aload_n hx hb dX12_counted_122 rfl (lv_at hl 4 rfl) ?_
      refine lv_aload_n hx hb dX12_counted_123 rfl (lv_at hl 4 rfl) ?_
      refine xget C hP 11 rfl rfl zuX12 3 (by decide) zw5_216 rfl dX12_counted_124 ?_
      refine lv_aload_n hx hb dX12_counted_127 rfl (lv_at hl 4 rfl) ?_
      refine xget C hP 11 rfl rfl zuX12 0 (by decide) zw5_213 rfl dX12_counted_128 ?_
      refine xv (wr := [(msm, .inl (cs 0, 2, .inl (smF2 (nI 1) (nI 1)))), (mtb, .inl (cs 5, 2, .inr (.inr (.inr (.inr (va_up (va_up (fun _ => none) 0 (some tb0_5)) 1 (some tb1_6))))))), (mti, .inl (cs 6, 2, .inr (.inr (.inr (.inr (va_up (va_up (fun _ => none) 0 (some ti0_7)) 1 (some ti1_8))))))), (st0_3, .inl (cs 0, 96048, .inl q0_9)), (tb0_5, .inl (cs 0, 8192, .inl tc0_11)), (tb1_6, .inl (cs 0, 8192, .inl tc1_12)), (ti0_7, .inl (cs 1, 2001, .inr (.inl u0_13))), (ti1_8, .inl (cs 1, 2001, .inr (.inl u1_14))), (mst, .inl (cs 5, 2, .inr (.inr (.inr (.inr (va_up (va_up (fun _ => none) 0 (some st0_3)) 1 (some st1_4))))))), (st1_4, .inl (cs 0, 96048, .inl q1_10))]) (xV (As := [.ref mtr, .ref ms]) (rest := []) C (c_X12_puts_m l D cs hm ms mkp mtr mas mso mon mot man mst msm mtb mti mfr mbn mbs mde maa mab mba mbb mtr ms freshS freshS) kX12_148 hP hD [11, 8, 12] rfl (by decide +kernel) 0 rfl rfl rfl ⟨Nat.le_of_ble_eq_true rfl, Nat.le_of_ble_eq_true rfl⟩ rfl hl.1 rfl (Nat.le_of_ble_eq_true rfl) dX12_counted_131 ⟨Nat.le_of_ble_eq_true rfl, Nat.le_of_ble_eq_true rfl⟩) hP hD hS hA [11, 8, 12] [0, 1, 2, 3, 4, 5, 6, 7, 9, 10] rfl rfl (by decide +kernel) (by decide +kernel) ?_
      clear hP hD hS
      try clear locs
      try clear H
      intro u_40 H locs hw_r_39 hP hD hS
      refine W.widen (k := 6) (n := 212482) (Nat.le_of_ble_eq_true rfl) (Nat.le_of_ble_eq_true rfl) ?_
      replace hP : va_P D vwCl [(msm, .inl (cs 0, 2, .inl (smF2 (nI 1) (nI 1)))), (mtb, .inl (cs 5, 2, .inr (.inr (.inr (.inr (va_up (va_up (fun _ => none) 0 (some tb0_5)) 1 (some tb1_6))))))), (mti, .inl (cs 6, 2, .inr (.inr (.inr (.inr (va_up (va_up (fun _ => none) 0 (some ti0_7)) 1 (some ti1_8))))))), (st0_3, .inl (cs 0, 96048, .inl q0_9)), (tb0_5, .inl (cs 0, 8192, .inl tc0_11)), (tb1_6, .inl (cs 0, 8192, .inl tc1_12)), (ti0_7, .inl (cs 1, 2001, .inr (.inl u0_13))), (ti1_8, .inl (cs 1, 2001, .inr (.inl u1_14))), (mst, .inl (cs 5, 2, .inr (.inr (.inr (.inr (va_up (va_up (fun _ => none) 0 (some st0_3)) 1 (some st1_4))))))), (st1_4, .inl (cs 0, 96048, .inl q1_10)), (hm, .inr (12, [.ref ms, .ref mkp, .int (nI 0), .ref mtr, .int (nI 4), .int (nI 2), .int (nI 2), .int (nI 3), .int (nI 2), .int (nI 1), .ref mas, .int (nI 0), .int (nI 0), .int (nI 0), .ref mso, .ref mon, .ref mot, .ref man, .int (nI 0), .int (nI 0), .ref mst, .ref msm, .ref mtb, .ref mti, .ref mfr, .ref mbn, .ref mbs, .ref mde, .int (nI 0), .int (nI 0), .int (nI 0), .int (nI 0), .long 0, .long 0, .ref maa, .ref mab, .ref mba, .ref mbb])), (mtr, .inl (cs 0, 288, .inl freshS)), (ms, .inl (cs 0, 288, .inl freshS))] H := hP
      replace hD : va_D A [(msm, .inl (cs 0, 2, .inl (smF2 (nI 1) (nI 1)))), (mtb, .inl (cs 5, 2, .inr (.inr (.inr (.inr (va_up (va_up (fun _ => none) 0 (some tb0_5)) 1 (some tb1_6))))))), (mti, .inl (cs 6, 2, .inr (.inr (.inr (.inr (va_up (va_up (fun _ => none) 0 (some ti0_7)) 1 (some ti1_8))))))), (st0_3, .inl (cs 0, 96048, .inl q0_9)), (tb0_5, .inl (cs 0, 8192, .inl tc0_11)), (tb1_6, .inl (cs 0, 8192, .inl tc1_12)), (ti0_7, .inl (cs 1, 2001, .inr (.inl u0_13))), (ti1_8, .inl (cs 1, 2001, .inr (.inl u1_14))), (mst, .inl (cs 5, 2, .inr (.inr (.inr (.inr (va_up (va_up (fun _ => none) 0 (some st0_3)) 1 (some st1_4))))))), (st1_4, .inl (cs 0, 96048, .inl q1_10)), (hm, .inr (12, [.ref ms, .ref mkp, .int (nI 0), .ref mtr, .int (nI 4), .int (nI 2), .int (nI 2), .int (nI 3), .int (nI 2), .int (nI 1), .ref mas, .int (nI 0), .int (nI 0), .int (nI 0), .ref mso, .ref mon, .ref mot, .ref man, .int (nI 0), .int (nI 0), .ref mst, .ref msm, .ref mtb, .ref mti, .ref mfr, .ref mbn, .ref mbs, .ref mde, .int (nI 0), .int (nI 0), .int (nI 0), .int (nI 0), .long 0, .long 0, .ref maa, .ref mab, .ref mba, .ref mbb])), (mtr, .inl (cs 0, 288, .inl freshS)), (ms, .inl (cs 0, 288, .inl freshS))] := hD
      refine lv_lload hx hb dX12_counted_134 (lv_at hl 1 rfl) ?_
      exact xretl C () ((if_pos hy0).symm) (xP_map hP [] rfl) (hD.sub [] (by decide +kernel) rfl) hS (Nat.le_of_ble_eq_true rfl) (Nat.le_of_ble_eq_true rfl) dX12_counted_136

set_option maxHeartbeats 4000000 in
set_option maxRecDepth 100000 in
theorem c_X12_exact (l : Launch) (D : va_G) (cs : Nat → ClassId) (hm ms mkp mtr mas mso mon mot man mst msm mtb mti mfr mbn mbs mde maa mab mba mbb : Nat) (tf : Nat → Int32) (x y : Int32) : xMet l D cs yX12_exact cX12_exact 5 (some .long) ({ frames := 6, cells := 6, slots := 212482, locals := 142 } : Room) [.ref hm, .int x, .int y] [(hm, .inr (12, [.ref ms, .ref mkp, .int (nI 0), .ref mtr, .int (nI 4), .int (nI 2), .int (nI 2), .int (nI 3), .int (nI 2), .int (nI 1), .ref mas, .int (nI 0), .int (nI 0), .int (nI 0), .ref mso, .ref mon, .ref mot, .ref man, .int (nI 0), .int (nI 0), .ref mst, .ref msm, .ref mtb, .ref mti, .ref mfr, .ref mbn, .ref mbs, .ref mde, .int (nI 0), .int (nI 0), .int (nI 0), .int (nI 0), .long 0, .long 0, .ref maa, .ref mab, .ref mba, .ref mbb])), (ms, .inl (cs 0, 288, .inl freshS)), (mtr, .inl (cs 0, 288, .inl tf)), (msm, .inl (cs 0, 2, .inl (fun _ => 0))), (mst, .inl (cs 5, 2, .inr (.inr (.inr (.inr (fun _ => none)))))), (mtb, .inl (cs 5, 2, .inr (.inr (.inr (.inr (fun _ => none)))))), (mti, .inl (cs 6, 2, .inr (.inr (.inr (.inr (fun _ => none))))))] (xQl D (fun (r : Int64) (_u : Unit) => r = exV x y) (fun (_u : Unit) => [])) := by
  refine xMet.intro (by decide) (Nat.le_of_ble_eq_true rfl) ?_
  intro p e s m args below meth c A ls C hP hD hS hl
  have hx := C.1
  have hb := C.2.1
  have hz := C.2.2.2.2.1
  have hown := C.2.2.2.1
  have hA := C.2.2.2.2.2.2.2.2.2
  have hAO := C.2.2.2.2.2.2.2.2.1.2.2
  replace hl : lv_has ls 5 [(0, .ref hm), (1, .int x), (2, .int y)] := hl
  obtain ⟨H, hH⟩ : ∃ H, H = s.heap := ⟨_, rfl⟩
  replace hP : va_P D vwCl [(hm, .inr (12, [.ref ms, .ref mkp, .int (nI 0), .ref mtr, .int (nI 4), .int (nI 2), .int (nI 2), .int (nI 3), .int (nI 2), .int (nI 1), .ref mas, .int (nI 0), .int (nI 0), .int (nI 0), .ref mso, .ref mon, .ref mot, .ref man, .int (nI 0), .int (nI 0), .ref mst, .ref msm, .ref mtb, .ref mti, .ref mfr, .ref mbn, .ref mbs, .ref mde, .int (nI 0), .int (nI 0), .int (nI 0), .int (nI 0), .long 0, .long 0, .ref maa, .ref mab, .ref mba, .ref mbb])), (ms, .inl (cs 0, 288, .inl freshS)), (mtr, .inl (cs 0, 288, .inl tf)), (msm, .inl (cs 0, 2, .inl (fun _ => 0))), (mst, .inl (cs 5, 2, .inr (.inr (.inr (.inr (fun _ => none)))))), (mtb, .inl (cs 5, 2, .inr (.inr (.inr (.inr (fun _ => none)))))), (mti, .inl (cs 6, 2, .inr (.inr (.inr (.inr (fun _ => none))))))] H := by rw [hH]; exact hP
  replace hS : va_S A s.heap H [] := by rw [hH]; exact hS
  obtain ⟨locs, hlocs⟩ : ∃ z : List Loc, z = [] := ⟨_, rfl⟩
  rw [← hlocs] at hS
  suffices hW : W p l e ({ frames := 6, cells := 6, slots := 212482, locals := 142 } : Room) s m args below meth c H locs 0 0 (MQ below ((xQl D (fun (r : Int64) (_u : Unit) => r = exV x y) (fun (_u : Unit) => [])) A) args s 6 212482 A) (F0 m 0 ls []) by rw [hlocs, hH] at hW; exact hW
  clear hH hlocs
  refine lv_aload_n hx hb dX12_exact_0 rfl (lv_at hl 0 rfl) ?_
  refine lv_iconst (v := nI 0) hx hb dX12_exact_1 (by decide) ?_
  refine xput C hP hD hS 0 rfl rfl zuX12 tyX12 tyX12_ok nmX12 18 (by decide) zw5_231 rfl rfl rfl (Nat.le_of_ble_eq_true rfl) dX12_exact_2 ?_
  clear hP hD hS
  try clear locs
  try clear H
  intro H locs hP hD hS
  replace hP : va_P D vwCl [(hm, .inr (12, [.ref ms, .ref mkp, .int (nI 0), .ref mtr, .int (nI 4), .int (nI 2), .int (nI 2), .int (nI 3), .int (nI 2), .int (nI 1), .ref mas, .int (nI 0), .int (nI 0), .int (nI 0), .ref mso, .ref mon, .ref mot, .ref man, .int (nI 0), .int (nI 0), .ref mst, .ref msm, .ref mtb, .ref mti, .ref mfr, .ref mbn, .ref mbs, .ref mde, .int (nI 0), .int (nI 0), .int (nI 0), .int (nI 0), .long 0, .long 0, .ref maa, .ref mab, .ref mba, .ref mbb])), (ms, .inl (cs 0, 288, .inl freshS)), (mtr, .inl (cs 0, 288, .inl tf)), (msm, .inl (cs 0, 2, .inl (fun _ => 0))), (mst, .inl (cs 5, 2, .inr (.inr (.inr (.inr (fun _ => none)))))), (mtb, .inl (cs 5, 2, .inr (.inr (.inr (.inr (fun _ => none)))))), (mti, .inl (cs 6, 2, .inr (.inr (.inr (.inr (fun _ => none))))))] H := hP
  replace hD : va_D A [(hm, .inr (12, [.ref ms, .ref mkp, .int (nI 0), .ref mtr, .int (nI 4), .int (nI 2), .int (nI 2), .int (nI 3), .int (nI 2), .int (nI 1), .ref mas, .int (nI 0), .int (nI 0), .int (nI 0), .ref mso, .ref mon, .ref mot, .ref man, .int (nI 0), .int (nI 0), .ref mst, .ref msm, .ref mtb, .ref mti, .ref mfr, .ref mbn, .ref mbs, .ref mde, .int (nI 0), .int (nI 0), .int (nI 0), .int (nI 0), .long 0, .long 0, .ref maa, .ref mab, .ref mba, .ref mbb])), (ms, .inl (cs 0, 288, .inl freshS)), (mtr, .inl (cs 0, 288, .inl tf)), (msm, .inl (cs 0, 2, .inl (fun _ => 0))), (mst, .inl (cs 5, 2, .inr (.inr (.inr (.inr (fun _ => none)))))), (mtb, .inl (cs 5, 2, .inr (.inr (.inr (.inr (fun _ => none)))))), (mti, .inl (cs 6, 2, .inr (.inr (.inr (.inr (fun _ => none))))))] := hD
  refine lv_iload_n hx hb dX12_exact_5 rfl (lv_at hl 1 rfl) ?_
  refine lv_iconst (v := nI 1) hx hb dX12_exact_6 (by decide) ?_
  refine lv_bipush (v := nI 12) hx hb dX12_exact_7 (by decide) ?_
  refine xi (wr := [(hm, .inr (12, [.ref ms, .ref mkp, .int (nI 0), .ref mtr, .int (nI 4), .int (nI 2), .int (nI 2), .int (nI 3), .int (nI 2), .int (nI 1), .ref mas, .int (nI 0), .int (nI 0), .int (nI 0), .ref mso, .ref mon, .ref mot, .ref man, .int (nI 0), .int (nI 0), .ref mst, .ref msm, .ref mtb, .ref mti, .ref mfr, .ref mbn, .ref mbs, .ref mde, .int (nI 0), .int (nI 0), .int (nI 0), .int (nI 0), .long 0, .long 0, .ref maa, .ref mab, .ref mba, .ref mbb])), (ms, .inl (cs 0, 288, .inl freshS)), (mtr, .inl (cs 0, 288, .inl tf)), (msm, .inl (cs 0, 2, .inl (fun _ => 0))), (mst, .inl (cs 5, 2, .inr (.inr (.inr (.inr (fun _ => none)))))), (mtb, .inl (cs 5, 2, .inr (.inr (.inr (.inr (fun _ => none)))))), (mti, .inl (cs 6, 2, .inr (.inr (.inr (.inr (fun _ => none))))))]) (xS (As := [.int x, .int (nI 1), .int (nI 12)]) (rest := []) C (c_X12_within l D cs x (nI 1) (nI 12)) kX12_116 hP hD [] rfl (by decide +kernel) ⟨Nat.le_of_ble_eq_true rfl, Nat.le_of_ble_eq_true rfl⟩ rfl hl.1 rfl (Nat.le_of_ble_eq_true rfl) dX12_exact_9 ⟨Nat.le_of_ble_eq_true rfl, Nat.le_of_ble_eq_true rfl⟩) hP hD hS hA [] [0, 1, 2, 3, 4, 5, 6] rfl rfl (by decide +kernel) (by decide +kernel) ?_
  clear hP hD hS
  try clear locs
  try clear H
  intro r_1 u_2 H locs hw_r_1 hP hD hS
  have hw_r_1 : PQ (¬ x < (nI 1) ∧ x ≤ (nI 12)) r_1 (nI 1) (nI 0) := hw_r_1
  refine W.widen (k := 0) (n := 0) (Nat.le_of_ble_eq_true rfl) (Nat.le_of_ble_eq_true rfl) ?_
  replace hP : va_P D vwCl [(hm, .inr (12, [.ref ms, .ref mkp, .int (nI 0), .ref mtr, .int (nI 4), .int (nI 2), .int (nI 2), .int (nI 3), .int (nI 2), .int (nI 1), .ref mas, .int (nI 0), .int (nI 0), .int (nI 0), .ref mso, .ref mon, .ref mot, .ref man, .int (nI 0), .int (nI 0), .ref mst, .ref msm, .ref mtb, .ref mti, .ref mfr, .ref mbn, .ref mbs, .ref mde, .int (nI 0), .int (nI 0), .int (nI 0), .int (nI 0), .long 0, .long 0, .ref maa, .ref mab, .ref mba, .ref mbb])), (ms, .inl (cs 0, 288, .inl freshS)), (mtr, .inl (cs 0, 288, .inl tf)), (msm, .inl (cs 0, 2, .inl (fun _ => 0))), (mst, .inl (cs 5, 2, .inr (.inr (.inr (.inr (fun _ => none)))))), (mtb, .inl (cs 5, 2, .inr (.inr (.inr (.inr (fun _ => none)))))), (mti, .inl (cs 6, 2, .inr (.inr (.inr (.inr (fun _ => none))))))] H := hP
  replace hD : va_D A [(hm, .inr (12, [.ref ms, .ref mkp, .int (nI 0), .ref mtr, .int (nI 4), .int (nI 2), .int (nI 2), .int (nI 3), .int (nI 2), .int (nI 1), .ref mas, .int (nI 0), .int (nI 0), .int (nI 0), .ref mso, .ref mon, .ref mot, .ref man, .int (nI 0), .int (nI 0), .ref mst, .ref msm, .ref mtb, .ref mti, .ref mfr, .ref mbn, .ref mbs, .ref mde, .int (nI 0), .int (nI 0), .int (nI 0), .int (nI 0), .long 0, .long 0, .ref maa, .ref mab, .ref mba, .ref mbb])), (ms, .inl (cs 0, 288, .inl freshS)), (mtr, .inl (cs 0, 288, .inl tf)), (msm, .inl (cs 0, 2, .inl (fun _ => 0))), (mst, .inl (cs 5, 2, .inr (.inr (.inr (.inr (fun _ => none)))))), (mtb, .inl (cs 5, 2, .inr (.inr (.inr (.inr (fun _ => none)))))), (mti, .inl (cs 6, 2, .inr (.inr (.inr (.inr (fun _ => none))))))] := hD
  refine lv_if_eq (tgt := 24) hx hb dX12_exact_12 (by decide) (fun c_3 => ?_) (fun c_3 => ?_)
  · -- 12 t
    have hn_a := PQ.no hw_r_1 c_3 (by decide)
    refine lv_ldc2 (v := (-1)) hx hb hown (hz _ zw6_193) dX12_exact_24 ?_
    exact xretl C () ((exV_n hn_a).symm) (xP_map hP [] rfl) (hD.sub [] (by decide +kernel) rfl) hS (Nat.le_of_ble_eq_true rfl) (Nat.le_of_ble_eq_true rfl) dX12_exact_27
  · -- 12 f
    have hy_a := PQ.yes hw_r_1 c_3
    obtain ⟨t, ht, rfl⟩ := told hy_a.1 (Int32.not_lt.mpr hy_a.2)
    replace hP : va_P D vwCl [(hm, .inr (12, [.ref ms, .ref mkp, .int (nI 0), .ref mtr, .int (nI 4), .int (nI 2), .int (nI 2), .int (nI 3), .int (nI 2), .int (nI 1), .ref mas, .int (nI 0), .int (nI 0), .int (nI 0), .ref mso, .ref mon, .ref mot, .ref man, .int (nI 0), .int (nI 0), .ref mst, .ref msm, .ref mtb, .ref mti, .ref mfr, .ref mbn, .ref mbs, .ref mde, .int (nI 0), .int (nI 0), .int (nI 0), .int (nI 0), .long 0, .long 0, .ref maa, .ref mab, .ref mba, .ref mbb])), (ms, .inl (cs 0, 288, .inl freshS)), (mtr, .inl (cs 0, 288, .inl tf)), (msm, .inl (cs 0, 2, .inl (fun _ => 0))), (mst, .inl (cs 5, 2, .inr (.inr (.inr (.inr (fun _ => none)))))), (mtb, .inl (cs 5, 2, .inr (.inr (.inr (.inr (fun _ => none)))))), (mti, .inl (cs 6, 2, .inr (.inr (.inr (.inr (fun _ => none))))))] H := hP
    replace hD : va_D A [(hm, .inr (12, [.ref ms, .ref mkp, .int (nI 0), .ref mtr, .int (nI 4), .int (nI 2), .int (nI 2), .int (nI 3), .int (nI 2), .int (nI 1), .ref mas, .int (nI 0), .int (nI 0), .int (nI 0), .ref mso, .ref mon, .ref mot, .ref man, .int (nI 0), .int (nI 0), .ref mst, .ref msm, .ref mtb, .ref mti, .ref mfr, .ref mbn, .ref mbs, .ref mde, .int (nI 0), .int (nI 0), .int (nI 0), .int (nI 0), .long 0, .long 0, .ref maa, .ref mab, .ref mba, .ref mbb])), (ms, .inl (cs 0, 288, .inl freshS)), (mtr, .inl (cs 0, 288, .inl tf)), (msm, .inl (cs 0, 2, .inl (fun _ => 0))), (mst, .inl (cs 5, 2, .inr (.inr (.inr (.inr (fun _ => none)))))), (mtb, .inl (cs 5, 2, .inr (.inr (.inr (.inr (fun _ => none)))))), (mti, .inl (cs 6, 2, .inr (.inr (.inr (.inr (fun _ => none))))))] := hD
    refine lv_iload_n hx hb dX12_exact_15 rfl (lv_at hl 2 rfl) ?_
    refine lv_iconst (v := nI 0) hx hb dX12_exact_16 (by decide) ?_
    refine lv_iconst (v := nI 2) hx hb dX12_exact_17 (by decide) ?_
    refine xi (wr := [(hm, .inr (12, [.ref ms, .ref mkp, .int (nI 0), .ref mtr, .int (nI 4), .int (nI 2), .int (nI 2), .int (nI 3), .int (nI 2), .int (nI 1), .ref mas, .int (nI 0), .int (nI 0), .int (nI 0), .ref mso, .ref mon, .ref mot, .ref man, .int (nI 0), .int (nI 0), .ref mst, .ref msm, .ref mtb, .ref mti, .ref mfr, .ref mbn, .ref mbs, .ref mde, .int (nI 0), .int (nI 0), .int (nI 0), .int (nI 0), .long 0, .long 0, .ref maa, .ref mab, .ref mba, .ref mbb])), (ms, .inl (cs 0, 288, .inl freshS)), (mtr, .inl (cs 0, 288, .inl tf)), (msm, .inl (cs 0, 2, .inl (fun _ => 0))), (mst, .inl (cs 5, 2, .inr (.inr (.inr (.inr (fun _ => none)))))), (mtb, .inl (cs 5, 2, .inr (.inr (.inr (.inr (fun _ => none)))))), (mti, .inl (cs 6, 2, .inr (.inr (.inr (.inr (fun _ => none))))))]) (xS (As := [.int y, .int (nI 0), .int (nI 2)]) (rest := []) C (c_X12_within l D cs y (nI 0) (nI 2)) kX12_116 hP hD [] rfl (by decide +kernel) ⟨Nat.le_of_ble_eq_true rfl, Nat.le_of_ble_eq_true rfl⟩ rfl hl.1 rfl (Nat.le_of_ble_eq_true rfl) dX12_exact_18 ⟨Nat.le_of_ble_eq_true rfl, Nat.le_of_ble_eq_true rfl⟩) hP hD hS hA [] [0, 1, 2, 3, 4, 5, 6] rfl rfl (by decide +kernel) (by decide +kernel) ?_
    clear hP hD hS
    try clear locs
    try clear H
    intro r_4 u_5 H locs hw_r_4 hP hD hS
    have hw_r_4 : PQ (¬ y < (nI 0) ∧ y ≤ (nI 2)) r_4 (nI 1) (nI 0) := hw_r_4
    refine W.widen (k := 0) (n := 0) (Nat.le_of_ble_eq_true rfl) (Nat.le_of_ble_eq_true rfl) ?_
    replace hP : va_P D vwCl [(hm, .inr (12, [.ref ms, .ref mkp, .int (nI 0), .ref mtr, .int (nI 4), .int (nI 2), .int (nI 2), .int (nI 3), .int (nI 2), .int (nI 1), .ref mas, .int (nI 0), .int (nI 0), .int (nI 0), .ref mso, .ref mon, .ref mot, .ref man, .int (nI 0), .int (nI 0), .ref mst, .ref msm, .ref mtb, .ref mti, .ref mfr, .ref mbn, .ref mbs, .ref mde, .int (nI 0), .int (nI 0), .int (nI 0), .int (nI 0), .long 0, .long 0, .ref maa, .ref mab, .ref mba, .ref mbb])), (ms, .inl (cs 0, 288, .inl freshS)), (mtr, .inl (cs 0, 288, .inl tf)), (msm, .inl (cs 0, 2, .inl (fun _ => 0))), (mst, .inl (cs 5, 2, .inr (.inr (.inr (.inr (fun _ => none)))))), (mtb, .inl (cs 5, 2, .inr (.inr (.inr (.inr (fun _ => none)))))), (mti, .inl (cs 6, 2, .inr (.inr (.inr (.inr (fun _ => none))))))] H := hP
    replace hD : va_D A [(hm, .inr (12, [.ref ms, .ref mkp, .int (nI 0), .ref mtr, .int (nI 4), .int (nI 2), .int (nI 2), .int (nI 3), .int (nI 2), .int (nI 1), .ref mas, .int (nI 0), .int (nI 0), .int (nI 0), .ref mso, .ref mon, .ref mot, .ref man, .int (nI 0), .int (nI 0), .ref mst, .ref msm, .ref mtb, .ref mti, .ref mfr, .ref mbn, .ref mbs, .ref mde, .int (nI 0), .int (nI 0), .int (nI 0), .int (nI 0), .long 0, .long 0, .ref maa, .ref mab, .ref mba, .ref mbb])), (ms, .inl (cs 0, 288, .inl freshS)), (mtr, .inl (cs 0, 288, .inl tf)), (msm, .inl (cs 0, 2, .inl (fun _ => 0))), (mst, .inl (cs 5, 2, .inr (.inr (.inr (.inr (fun _ => none)))))), (mtb, .inl (cs 5, 2, .inr (.inr (.inr (.inr (fun _ => none)))))), (mti, .inl (cs 6, 2, .inr (.inr (.inr (.inr (fun _ => none))))))] := hD
    refine lv_if_ne (tgt := 28) hx hb dX12_exact_21 (by decide) (fun c_6 => ?_) (fun c_6 => ?_)
    · -- 21 t
      have hy_b := PQ.yes hw_r_4 c_6
      refine lv_aload_n hx hb dX12_exact_28 rfl (lv_at hl 0 rfl) ?_
      refine lv_iload_n hx hb dX12_exact_29 rfl (lv_at hl 1 rfl) ?_
      refine xl (wr := [(ms, .inl (cs 0, 288, .inl freshS)), (mtr, .inl (cs 0, 288, .inl tf)), (msm, .inl (cs 0, 2, .inl (fun _ => 0))), (mst, .inl (cs 5, 2, .inr (.inr (.inr (.inr (fun _ => none)))))), (mtb, .inl (cs 5, 2, .inr (.inr (.inr (.inr (fun _ => none)))))), (mti, .inl (cs 6, 2, .inr (.inr (.inr (.inr (fun _ => none))))))]) (xV (As := [.int (nI t)]) (rest := []) C (c_X12_waysOf_z l D cs hm ms mkp mtr mas mso mon mot man mst msm mtb mti mfr mbn mbs mde maa mab mba mbb t ht.2) kX12_221 hP hD [0] rfl (by decide +kernel) 0 rfl rfl rfl ⟨Nat.le_of_ble_eq_true rfl, Nat.le_of_ble_eq_true rfl⟩ rfl hl.1 rfl (Nat.le_of_ble_eq_true rfl) dX12_exact_30 ⟨Nat.le_of_ble_eq_true rfl, Nat.le_of_ble_eq_true rfl⟩) hP hD hS hA [0] [1, 2, 3, 4, 5, 6] rfl rfl (by decide +kernel) (by decide +kernel) ?_
      clear hP hD hS
      try clear locs
      try clear H
      intro r_7 u_8 H locs hw_r_7 hP hD hS
      have hw_r_7 : r_7 = lN (12 ^ t) := hw_r_7
      refine W.widen (k := 0) (n := 0) (Nat.le_of_ble_eq_true rfl) (Nat.le_of_ble_eq_true rfl) ?_
      replace hP : va_P D vwCl [(ms, .inl (cs 0, 288, .inl freshS)), (mtr, .inl (cs 0, 288, .inl tf)), (msm, .inl (cs 0, 2, .inl (fun _ => 0))), (mst, .inl (cs 5, 2, .inr (.inr (.inr (.inr (fun _ => none)))))), (mtb, .inl (cs 5, 2, .inr (.inr (.inr (.inr (fun _ => none)))))), (mti, .inl (cs 6, 2, .inr (.inr (.inr (.inr (fun _ => none)))))), (hm, .inr (12, [.ref ms, .ref mkp, .int (nI 0), .ref mtr, .int (nI 4), .int (nI 2), .int (nI 2), .int (nI 3), .int (nI 2), .int (nI 1), .ref mas, .int (nI 0), .int (nI 0), .int (nI 0), .ref mso, .ref mon, .ref mot, .ref man, .int (nI 0), .int (nI 0), .ref mst, .ref msm, .ref mtb, .ref mti, .ref mfr, .ref mbn, .ref mbs, .ref mde, .int (nI 0), .int (nI 0), .int (nI 0), .int (nI 0), .long 0, .long 0, .ref maa, .ref mab, .ref mba, .ref mbb]))] H := hP
      replace hD : va_D A [(ms, .inl (cs 0, 288, .inl freshS)), (mtr, .inl (cs 0, 288, .inl tf)), (msm, .inl (cs 0, 2, .inl (fun _ => 0))), (mst, .inl (cs 5, 2, .inr (.inr (.inr (.inr (fun _ => none)))))), (mtb, .inl (cs 5, 2, .inr (.inr (.inr (.inr (fun _ => none)))))), (mti, .inl (cs 6, 2, .inr (.inr (.inr (.inr (fun _ => none)))))), (hm, .inr (12, [.ref ms, .ref mkp, .int (nI 0), .ref mtr, .int (nI 4), .int (nI 2), .int (nI 2), .int (nI 3), .int (nI 2), .int (nI 1), .ref mas, .int (nI 0), .int (nI 0), .int (nI 0), .ref mso, .ref mon, .ref mot, .ref man, .int (nI 0), .int (nI 0), .ref mst, .ref msm, .ref mtb, .ref mti, .ref mfr, .ref mbn, .ref mbs, .ref mde, .int (nI 0), .int (nI 0), .int (nI 0), .int (nI 0), .long 0, .long 0, .ref maa, .ref mab, .ref mba, .ref mbb]))] := hD
      subst hw_r_7
      refine lv_lstore_n (lv' := [(3, .long (lN (12 ^ t))), (0, .ref hm), (1, .int (nI t)), (2, .int y)]) hx hb dX12_exact_33 rfl hl (by decide) rfl ?_
      clear hl
      try clear ls
      intro ls hl
      refine lv_lload_n hx hb dX12_exact_34 rfl (lv_at hl 0 rfl) ?_
      refine lv_lconst (v := 0) hx hb dX12_exact_35 (by decide) ?_
      refine W.lcmp hx hb dX12_exact_36 ?_
      refine lv_if_ge (tgt := 44) hx hb dX12_exact_37 (by decide) (fun _ => ?_) (fun c => absurd ((lg_cmp_ge _ _).mpr (Int64.not_lt.mp (fun q => ways_cmp0 t ht.2 ((lg_cmp_lt _ _).mpr q)))) c)
      refine lv_iload_n hx hb dX12_exact_44 rfl (lv_at hl 3 rfl) ?_
      refine lv_if_ne (tgt := 52) hx hb dX12_exact_45 (by decide) (fun c_9 => ?_) (fun c_9 => ?_)
      · -- 45 t
        rcases (exw12 hy_b.1 c_9 hy_b.2) with rfl | rfl
        · -- split
          replace hP : va_P D vwCl [(ms, .inl (cs 0, 288, .inl freshS)), (mtr, .inl (cs 0, 288, .inl tf)), (msm, .inl (cs 0, 2, .inl (fun _ => 0))), (mst, .inl (cs 5, 2, .inr (.inr (.inr (.inr (fun _ => none)))))), (mtb, .inl (cs 5, 2, .inr (.inr (.inr (.inr (fun _ => none)))))), (mti, .inl (cs 6, 2, .inr (.inr (.inr (.inr (fun _ => none)))))), (hm, .inr (12, [.ref ms, .ref mkp, .int (nI 0), .ref mtr, .int (nI 4), .int (nI 2), .int (nI 2), .int (nI 3), .int (nI 2), .int (nI 1), .ref mas, .int (nI 0), .int (nI 0), .int (nI 0), .ref mso, .ref mon, .ref mot, .ref man, .int (nI 0), .int (nI 0), .ref mst, .ref msm, .ref mtb, .ref mti, .ref mfr, .ref mbn, .ref mbs, .ref mde, .int (nI 0), .int (nI 0), .int (nI 0), .int (nI 0), .long 0, .long 0, .ref maa, .ref mab, .ref mba, .ref mbb]))] H := hP
          replace hD : va_D A [(ms, .inl (cs 0, 288, .inl freshS)), (mtr, .inl (cs 0, 288, .inl tf)), (msm, .inl (cs 0, 2, .inl (fun _ => 0))), (mst, .inl (cs 5, 2, .inr (.inr (.inr (.inr (fun _ => none)))))), (mtb, .inl (cs 5, 2, .inr (.inr (.inr (.inr (fun _ => none)))))), (mti, .inl (cs 6, 2, .inr (.inr (.inr (.inr (fun _ => none)))))), (hm, .inr (12, [.ref ms, .ref mkp, .int (nI 0), .ref mtr, .int (nI 4), .int (nI 2), .int (nI 2), .int (nI 3), .int (nI 2), .int (nI 1), .ref mas, .int (nI 0), .int (nI 0), .int (nI 0), .ref mso, .ref mon, .ref mot, .ref man, .int (nI 0), .int (nI 0), .ref mst, .ref msm, .ref mtb, .ref mti, .ref mfr, .ref mbn, .ref mbs, .ref mde, .int (nI 0), .int (nI 0), .int (nI 0), .int (nI 0), .long 0, .long 0, .ref maa, .ref mab, .ref mba, .ref mbb]))] := hD
          refine lv_aload_n hx hb dX12_exact_52 rfl (lv_at hl 1 rfl) ?_
          refine lv_iload_n hx hb dX12_exact_53 rfl (lv_at hl 2 rfl) ?_
          refine lv_iload_n hx hb dX12_exact_54 rfl (lv_at hl 3 rfl) ?_
          refine lv_iconst (v := nI 0) hx hb dX12_exact_55 (by decide) ?_
          refine xl (wr := []) (xV (As := [.int (nI t), .int (nI 1), .int (nI 0)]) (rest := []) C (c_X12_counted_1 l D cs hm ms mkp mtr mas mso mon mot man mst msm mtb mti mfr mbn mbs mde maa mab mba mbb tf t ht.1 ht.2) kX12_227 hP hD [6, 0, 1, 2, 3, 4, 5] rfl (by decide +kernel) 0 rfl rfl rfl ⟨Nat.le_of_ble_eq_true rfl, Nat.le_of_ble_eq_true rfl⟩ rfl hl.1 rfl (Nat.le_of_ble_eq_true rfl) dX12_exact_56 ⟨Nat.le_of_ble_eq_true rfl, Nat.le_of_ble_eq_true rfl⟩) hP hD hS hA [6, 0, 1, 2, 3, 4, 5] [] rfl rfl (by decide +kernel) (by decide +kernel) ?_
          clear hP hD hS
          try clear locs
          try clear H
          intro r_10 u_11 H locs hw_r_10 hP hD hS
          have hw_r_10 : r_10 = 0 := hw_r_10
          refine W.widen (k := 6) (n := 212482) (Nat.le_of_ble_eq_true rfl) (Nat.le_of_ble_eq_true rfl) ?_
          replace hP : va_P D vwCl [] H := hP
          replace hD : va_D A [] := hD
          subst hw_r_10
          exact xretl C () (((exV_t ht hy_b).trans (if_neg (by decide))).symm) hP hD hS (Nat.le_of_ble_eq_true rfl) (Nat.le_of_ble_eq_true rfl) dX12_exact_59
        · -- split
          replace hP : va_P D vwCl [(ms, .inl (cs 0, 288, .inl freshS)), (mtr, .inl (cs 0, 288, .inl tf)), (msm, .inl (cs 0, 2, .inl (fun _ => 0))), (mst, .inl (cs 5, 2, .inr (.inr (.inr (.inr (fun _ => none)))))), (mtb, .inl (cs 5, 2, .inr (.inr (.inr (.inr (fun _ => none)))))), (mti, .inl (cs 6, 2, .inr (.inr (.inr (.inr (fun _ => none)))))), (hm, .inr (12, [.ref ms, .ref mkp, .int (nI 0), .ref mtr, .int (nI 4), .int (nI 2), .int (nI 2), .int (nI 3), .int (nI 2), .int (nI 1), .ref mas, .int (nI 0), .int (nI 0), .int (nI 0), .ref mso, .ref mon, .ref mot, .ref man, .int (nI 0), .int (nI 0), .ref mst, .ref msm, .ref mtb, .ref mti, .ref mfr, .ref mbn, .ref mbs, .ref mde, .int (nI 0), .int (nI 0), .int (nI 0), .int (nI 0), .long 0, .long 0, .ref maa, .ref mab, .ref mba, .ref mbb]))] H := hP
          replace hD : va_D A [(ms, .inl (cs 0, 288, .inl freshS)), (mtr, .inl (cs 0, 288, .inl tf)), (msm, .inl (cs 0, 2, .inl (fun _ => 0))), (mst, .inl (cs 5, 2, .inr (.inr (.inr (.inr (fun _ => none)))))), (mtb, .inl (cs 5, 2, .inr (.inr (.inr (.inr (fun _ => none)))))), (mti, .inl (cs 6, 2, .inr (.inr (.inr (.inr (fun _ => none)))))), (hm, .inr (12, [.ref ms, .ref mkp, .int (nI 0), .ref mtr, .int (nI 4), .int (nI 2), .int (nI 2), .int (nI 3), .int (nI 2), .int (nI 1), .ref mas, .int (nI 0), .int (nI 0), .int (nI 0), .ref mso, .ref mon, .ref mot, .ref man, .int (nI 0), .int (nI 0), .ref mst, .ref msm, .ref mtb, .ref mti, .ref mfr, .ref mbn, .ref mbs, .ref mde, .int (nI 0), .int (nI 0), .int (nI 0), .int (nI 0), .long 0, .long 0, .ref maa, .ref mab, .ref mba, .ref mbb]))] := hD
          refine lv_aload_n hx hb dX12_exact_52 rfl (lv_at hl 1 rfl) ?_
          refine lv_iload_n hx hb dX12_exact_53 rfl (lv_at hl 2 rfl) ?_
          refine lv_iload_n hx hb dX12_exact_54 rfl (lv_at hl 3 rfl) ?_
          refine lv_iconst (v := nI 0) hx hb dX12_exact_55 (by decide) ?_
          refine xl (wr := []) (xV (As := [.int (nI t), .int (nI 2), .int (nI 0)]) (rest := []) C (c_X12_counted_2 l D cs hm ms mkp mtr mas mso mon mot man mst msm mtb mti mfr mbn mbs mde maa mab mba mbb tf t ht.1 ht.2) kX12_227 hP hD [6, 0, 1, 2, 3, 4, 5] rfl (by decide +kernel) 0 rfl rfl rfl ⟨Nat.le_of_ble_eq_true rfl, Nat.le_of_ble_eq_true rfl⟩ rfl hl.1 rfl (Nat.le_of_ble_eq_true rfl) dX12_exact_56 ⟨Nat.le_of_ble_eq_true rfl, Nat.le_of_ble_eq_true rfl⟩) hP hD hS hA [6, 0, 1, 2, 3, 4, 5] [] rfl rfl (by decide +kernel) (by decide +kernel) ?_
          clear hP hD hS
          try clear locs
          try clear H
          intro r_12 u_13 H locs hw_r_12 hP hD hS
          have hw_r_12 : r_12 = 0 := hw_r_12
          refine W.widen (k := 6) (n := 212482) (Nat.le_of_ble_eq_true rfl) (Nat.le_of_ble_eq_true rfl) ?_
          replace hP : va_P D vwCl [] H := hP
          replace hD : va_D A [] := hD
          subst hw_r_12
          exact xretl C () (((exV_t ht hy_b).trans (if_neg (by decide))).symm) hP hD hS (Nat.le_of_ble_eq_true rfl) (Nat.le_of_ble_eq_true rfl) dX12_exact_59
      · -- 45 f
        refine lv_lload_n hx hb dX12_exact_48 rfl (lv_at hl 0 rfl) ?_
        refine lv_goto (tgt := 59) hx hb dX12_exact_49 (by decide) ?_
        exact xretl C () ((if_pos c_9).symm.trans (exV_t ht hy_b).symm) (xP_map hP [] rfl) (hD.sub [] (by decide +kernel) rfl) hS (Nat.le_of_ble_eq_true rfl) (Nat.le_of_ble_eq_true rfl) dX12_exact_59
    · -- 21 f
      have hn_b := PQ.no hw_r_4 c_6 (by decide)
      refine lv_ldc2 (v := (-1)) hx hb hown (hz _ zw6_193) dX12_exact_24 ?_
      exact xretl C () ((exV_w hn_b).symm) (xP_map hP [] rfl) (hD.sub [] (by decide +kernel) rfl) hS (Nat.le_of_ble_eq_true rfl) (Nat.le_of_ble_eq_true rfl) dX12_exact_27

set_option maxHeartbeats 4000000 in
set_option maxRecDepth 100000 in
theorem c_X12_colours (l : Launch) (D : va_G) (cs : Nat → ClassId) (hm ms mkp mtr mas mso mon mot man mst msm mtb mti mfr mbn mbs mde maa mab mba mbb : Nat) (tf : Nat → Int32) (x y : Int32) : xMet l D cs yX12_colours cX12_colours 3 (some .long) ({ frames := 6, cells := 6, slots := 212482, locals := 142 } : Room) [.ref hm, .int x, .int y] [(hm, .inr (12, [.ref ms, .ref mkp, .int (nI 0), .ref mtr, .int (nI 4), .int (nI 2), .int (nI 2), .int (nI 3), .int (nI 2), .int (nI 1), .ref mas, .int (nI 0), .int (nI 0), .int (nI 0), .ref mso, .ref mon, .ref mot, .ref man, .int (nI 0), .int (nI 0), .ref mst, .ref msm, .ref mtb, .ref mti, .ref mfr, .ref mbn, .ref mbs, .ref mde, .int (nI 0), .int (nI 0), .int (nI 0), .int (nI 0), .long 0, .long 0, .ref maa, .ref mab, .ref mba, .ref mbb])), (ms, .inl (cs 0, 288, .inl freshS)), (mtr, .inl (cs 0, 288, .inl tf)), (msm, .inl (cs 0, 2, .inl (fun _ => 0))), (mst, .inl (cs 5, 2, .inr (.inr (.inr (.inr (fun _ => none)))))), (mtb, .inl (cs 5, 2, .inr (.inr (.inr (.inr (fun _ => none)))))), (mti, .inl (cs 6, 2, .inr (.inr (.inr (.inr (fun _ => none))))))] (xQl D (fun (r : Int64) (_u : Unit) => r = coV x y) (fun (_u : Unit) => [])) := by
  refine xMet.intro (by decide) (Nat.le_of_ble_eq_true rfl) ?_
  intro p e s m args below meth c A ls C hP hD hS hl
  have hx := C.1
  have hb := C.2.1
  have hz := C.2.2.2.2.1
  have hown := C.2.2.2.1
  have hA := C.2.2.2.2.2.2.2.2.2
  have hAO := C.2.2.2.2.2.2.2.2.1.2.2
  replace hl : lv_has ls 3 [(0, .ref hm), (1, .int x), (2, .int y)] := hl
  obtain ⟨H, hH⟩ : ∃ H, H = s.heap := ⟨_, rfl⟩
  replace hP : va_P D vwCl [(hm, .inr (12, [.ref ms, .ref mkp, .int (nI 0), .ref mtr, .int (nI 4), .int (nI 2), .int (nI 2), .int (nI 3), .int (nI 2), .int (nI 1), .ref mas, .int (nI 0), .int (nI 0), .int (nI 0), .ref mso, .ref mon, .ref mot, .ref man, .int (nI 0), .int (nI 0), .ref mst, .ref msm, .ref mtb, .ref mti, .ref mfr, .ref mbn, .ref mbs, .ref mde, .int (nI 0), .int (nI 0), .int (nI 0), .int (nI 0), .long 0, .long 0, .ref maa, .ref mab, .ref mba, .ref mbb])), (ms, .inl (cs 0, 288, .inl freshS)), (mtr, .inl (cs 0, 288, .inl tf)), (msm, .inl (cs 0, 2, .inl (fun _ => 0))), (mst, .inl (cs 5, 2, .inr (.inr (.inr (.inr (fun _ => none)))))), (mtb, .inl (cs 5, 2, .inr (.inr (.inr (.inr (fun _ => none)))))), (mti, .inl (cs 6, 2, .inr (.inr (.inr (.inr (fun _ => none))))))] H := by rw [hH]; exact hP
  replace hS : va_S A s.heap H [] := by rw [hH]; exact hS
  obtain ⟨locs, hlocs⟩ : ∃ z : List Loc, z = [] := ⟨_, rfl⟩
  rw [← hlocs] at hS
  suffices hW : W p l e ({ frames := 6, cells := 6, slots := 212482, locals := 142 } : Room) s m args below meth c H locs 0 0 (MQ below ((xQl D (fun (r : Int64) (_u : Unit) => r = coV x y) (fun (_u : Unit) => [])) A) args s 6 212482 A) (F0 m 0 ls []) by rw [hlocs, hH] at hW; exact hW
  clear hH hlocs
  refine lv_aload_n hx hb dX12_colours_0 rfl (lv_at hl 0 rfl) ?_
  refine lv_iconst (v := nI 0) hx hb dX12_colours_1 (by decide) ?_
  refine xput C hP hD hS 0 rfl rfl zuX12 tyX12 tyX12_ok nmX12 18 (by decide) zw5_231 rfl rfl rfl (Nat.le_of_ble_eq_true rfl) dX12_colours_2 ?_
  clear hP hD hS
  try clear locs
  try clear H
  intro H locs hP hD hS
  replace hP : va_P D vwCl [(hm, .inr (12, [.ref ms, .ref mkp, .int (nI 0), .ref mtr, .int (nI 4), .int (nI 2), .int (nI 2), .int (nI 3), .int (nI 2), .int (nI 1), .ref mas, .int (nI 0), .int (nI 0), .int (nI 0), .ref mso, .ref mon, .ref mot, .ref man, .int (nI 0), .int (nI 0), .ref mst, .ref msm, .ref mtb, .ref mti, .ref mfr, .ref mbn, .ref mbs, .ref mde, .int (nI 0), .int (nI 0), .int (nI 0), .int (nI 0), .long 0, .long 0, .ref maa, .ref mab, .ref mba, .ref mbb])), (ms, .inl (cs 0, 288, .inl freshS)), (mtr, .inl (cs 0, 288, .inl tf)), (msm, .inl (cs 0, 2, .inl (fun _ => 0))), (mst, .inl (cs 5, 2, .inr (.inr (.inr (.inr (fun _ => none)))))), (mtb, .inl (cs 5, 2, .inr (.inr (.inr (.inr (fun _ => none)))))), (mti, .inl (cs 6, 2, .inr (.inr (.inr (.inr (fun _ => none))))))] H := hP
  replace hD : va_D A [(hm, .inr (12, [.ref ms, .ref mkp, .int (nI 0), .ref mtr, .int (nI 4), .int (nI 2), .int (nI 2), .int (nI 3), .int (nI 2), .int (nI 1), .ref mas, .int (nI 0), .int (nI 0), .int (nI 0), .ref mso, .ref mon, .ref mot, .ref man, .int (nI 0), .int (nI 0), .ref mst, .ref msm, .ref mtb, .ref mti, .ref mfr, .ref mbn, .ref mbs, .ref mde, .int (nI 0), .int (nI 0), .int (nI 0), .int (nI 0), .long 0, .long 0, .ref maa, .ref mab, .ref mba, .ref mbb])), (ms, .inl (cs 0, 288, .inl freshS)), (mtr, .inl (cs 0, 288, .inl tf)), (msm, .inl (cs 0, 2, .inl (fun _ => 0))), (mst, .inl (cs 5, 2, .inr (.inr (.inr (.inr (fun _ => none)))))), (mtb, .inl (cs 5, 2, .inr (.inr (.inr (.inr (fun _ => none)))))), (mti, .inl (cs 6, 2, .inr (.inr (.inr (.inr (fun _ => none))))))] := hD
  refine lv_iload_n hx hb dX12_colours_5 rfl (lv_at hl 1 rfl) ?_
  refine lv_iconst (v := nI 1) hx hb dX12_colours_6 (by decide) ?_
  refine lv_bipush (v := nI 12) hx hb dX12_colours_7 (by decide) ?_
  refine xi (wr := [(hm, .inr (12, [.ref ms, .ref mkp, .int (nI 0), .ref mtr, .int (nI 4), .int (nI 2), .int (nI 2), .int (nI 3), .int (nI 2), .int (nI 1), .ref mas, .int (nI 0), .int (nI 0), .int (nI 0), .ref mso, .ref mon, .ref mot, .ref man, .int (nI 0), .int (nI 0), .ref mst, .ref msm, .ref mtb, .ref mti, .ref mfr, .ref mbn, .ref mbs, .ref mde, .int (nI 0), .int (nI 0), .int (nI 0), .int (nI 0), .long 0, .long 0, .ref maa, .ref mab, .ref mba, .ref mbb])), (ms, .inl (cs 0, 288, .inl freshS)), (mtr, .inl (cs 0, 288, .inl tf)), (msm, .inl (cs 0, 2, .inl (fun _ => 0))), (mst, .inl (cs 5, 2, .inr (.inr (.inr (.inr (fun _ => none)))))), (mtb, .inl (cs 5, 2, .inr (.inr (.inr (.inr (fun _ => none)))))), (mti, .inl (cs 6, 2, .inr (.inr (.inr (.inr (fun _ => none))))))]) (xS (As := [.int x, .int (nI 1), .int (nI 12)]) (rest := []) C (c_X12_within l D cs x (nI 1) (nI 12)) kX12_116 hP hD [] rfl (by decide +kernel) ⟨Nat.le_of_ble_eq_true rfl, Nat.le_of_ble_eq_true rfl⟩ rfl hl.1 rfl (Nat.le_of_ble_eq_true rfl) dX12_colours_9 ⟨Nat.le_of_ble_eq_true rfl, Nat.le_of_ble_eq_true rfl⟩) hP hD hS hA [] [0, 1, 2, 3, 4, 5, 6] rfl rfl (by decide +kernel) (by decide +kernel) ?_
  clear hP hD hS
  try clear locs
  try clear H
  intro r_1 u_2 H locs hw_r_1 hP hD hS
  have hw_r_1 : PQ (¬ x < (nI 1) ∧ x ≤ (nI 12)) r_1 (nI 1) (nI 0) := hw_r_1
  refine W.widen (k := 0) (n := 0) (Nat.le_of_ble_eq_true rfl) (Nat.le_of_ble_eq_true rfl) ?_
  replace hP : va_P D vwCl [(hm, .inr (12, [.ref ms, .ref mkp, .int (nI 0), .ref mtr, .int (nI 4), .int (nI 2), .int (nI 2), .int (nI 3), .int (nI 2), .int (nI 1), .ref mas, .int (nI 0), .int (nI 0), .int (nI 0), .ref mso, .ref mon, .ref mot, .ref man, .int (nI 0), .int (nI 0), .ref mst, .ref msm, .ref mtb, .ref mti, .ref mfr, .ref mbn, .ref mbs, .ref mde, .int (nI 0), .int (nI 0), .int (nI 0), .int (nI 0), .long 0, .long 0, .ref maa, .ref mab, .ref mba, .ref mbb])), (ms, .inl (cs 0, 288, .inl freshS)), (mtr, .inl (cs 0, 288, .inl tf)), (msm, .inl (cs 0, 2, .inl (fun _ => 0))), (mst, .inl (cs 5, 2, .inr (.inr (.inr (.inr (fun _ => none)))))), (mtb, .inl (cs 5, 2, .inr (.inr (.inr (.inr (fun _ => none)))))), (mti, .inl (cs 6, 2, .inr (.inr (.inr (.inr (fun _ => none))))))] H := hP
  replace hD : va_D A [(hm, .inr (12, [.ref ms, .ref mkp, .int (nI 0), .ref mtr, .int (nI 4), .int (nI 2), .int (nI 2), .int (nI 3), .int (nI 2), .int (nI 1), .ref mas, .int (nI 0), .int (nI 0), .int (nI 0), .ref mso, .ref mon, .ref mot, .ref man, .int (nI 0), .int (nI 0), .ref mst, .ref msm, .ref mtb, .ref mti, .ref mfr, .ref mbn, .ref mbs, .ref mde, .int (nI 0), .int (nI 0), .int (nI 0), .int (nI 0), .long 0, .long 0, .ref maa, .ref mab, .ref mba, .ref mbb])), (ms, .inl (cs 0, 288, .inl freshS)), (mtr, .inl (cs 0, 288, .inl tf)), (msm, .inl (cs 0, 2, .inl (fun _ => 0))), (mst, .inl (cs 5, 2, .inr (.inr (.inr (.inr (fun _ => none)))))), (mtb, .inl (cs 5, 2, .inr (.inr (.inr (.inr (fun _ => none)))))), (mti, .inl (cs 6, 2, .inr (.inr (.inr (.inr (fun _ => none))))))] := hD
  refine lv_if_eq (tgt := 27) hx hb dX12_colours_12 (by decide) (fun c_3 => ?_) (fun c_3 => ?_)
  · -- 12 t
    have hn_a := PQ.no hw_r_1 c_3 (by decide)
    refine lv_ldc2 (v := (-1)) hx hb hown (hz _ zw6_193) dX12_colours_27 ?_
    exact xretl C () ((coV_n hn_a).symm) (xP_map hP [] rfl) (hD.sub [] (by decide +kernel) rfl) hS (Nat.le_of_ble_eq_true rfl) (Nat.le_of_ble_eq_true rfl) dX12_colours_30
  · -- 12 f
    have hy_a := PQ.yes hw_r_1 c_3
    obtain ⟨t, ht, rfl⟩ := told hy_a.1 (Int32.not_lt.mpr hy_a.2)
    replace hP : va_P D vwCl [(hm, .inr (12, [.ref ms, .ref mkp, .int (nI 0), .ref mtr, .int (nI 4), .int (nI 2), .int (nI 2), .int (nI 3), .int (nI 2), .int (nI 1), .ref mas, .int (nI 0), .int (nI 0), .int (nI 0), .ref mso, .ref mon, .ref mot, .ref man, .int (nI 0), .int (nI 0), .ref mst, .ref msm, .ref mtb, .ref mti, .ref mfr, .ref mbn, .ref mbs, .ref mde, .int (nI 0), .int (nI 0), .int (nI 0), .int (nI 0), .long 0, .long 0, .ref maa, .ref mab, .ref mba, .ref mbb])), (ms, .inl (cs 0, 288, .inl freshS)), (mtr, .inl (cs 0, 288, .inl tf)), (msm, .inl (cs 0, 2, .inl (fun _ => 0))), (mst, .inl (cs 5, 2, .inr (.inr (.inr (.inr (fun _ => none)))))), (mtb, .inl (cs 5, 2, .inr (.inr (.inr (.inr (fun _ => none)))))), (mti, .inl (cs 6, 2, .inr (.inr (.inr (.inr (fun _ => none))))))] H := hP
    replace hD : va_D A [(hm, .inr (12, [.ref ms, .ref mkp, .int (nI 0), .ref mtr, .int (nI 4), .int (nI 2), .int (nI 2), .int (nI 3), .int (nI 2), .int (nI 1), .ref mas, .int (nI 0), .int (nI 0), .int (nI 0), .ref mso, .ref mon, .ref mot, .ref man, .int (nI 0), .int (nI 0), .ref mst, .ref msm, .ref mtb, .ref mti, .ref mfr, .ref mbn, .ref mbs, .ref mde, .int (nI 0), .int (nI 0), .int (nI 0), .int (nI 0), .long 0, .long 0, .ref maa, .ref mab, .ref mba, .ref mbb])), (ms, .inl (cs 0, 288, .inl freshS)), (mtr, .inl (cs 0, 288, .inl tf)), (msm, .inl (cs 0, 2, .inl (fun _ => 0))), (mst, .inl (cs 5, 2, .inr (.inr (.inr (.inr (fun _ => none)))))), (mtb, .inl (cs 5, 2, .inr (.inr (.inr (.inr (fun _ => none)))))), (mti, .inl (cs 6, 2, .inr (.inr (.inr (.inr (fun _ => none))))))] := hD
    refine lv_iload_n hx hb dX12_colours_15 rfl (lv_at hl 2 rfl) ?_
    refine lv_iconst (v := nI 0) hx hb dX12_colours_16 (by decide) ?_
    refine lv_aload_n hx hb dX12_colours_17 rfl (lv_at hl 0 rfl) ?_
    refine xget C hP 0 rfl rfl zuX12 4 (by decide) zw5_217 rfl dX12_colours_18 ?_
    refine xi (wr := [(hm, .inr (12, [.ref ms, .ref mkp, .int (nI 0), .ref mtr, .int (nI 4), .int (nI 2), .int (nI 2), .int (nI 3), .int (nI 2), .int (nI 1), .ref mas, .int (nI 0), .int (nI 0), .int (nI 0), .ref mso, .ref mon, .ref mot, .ref man, .int (nI 0), .int (nI 0), .ref mst, .ref msm, .ref mtb, .ref mti, .ref mfr, .ref mbn, .ref mbs, .ref mde, .int (nI 0), .int (nI 0), .int (nI 0), .int (nI 0), .long 0, .long 0, .ref maa, .ref mab, .ref mba, .ref mbb])), (ms, .inl (cs 0, 288, .inl freshS)), (mtr, .inl (cs 0, 288, .inl tf)), (msm, .inl (cs 0, 2, .inl (fun _ => 0))), (mst, .inl (cs 5, 2, .inr (.inr (.inr (.inr (fun _ => none)))))), (mtb, .inl (cs 5, 2, .inr (.inr (.inr (.inr (fun _ => none)))))), (mti, .inl (cs 6, 2, .inr (.inr (.inr (.inr (fun _ => none))))))]) (xS (As := [.int y, .int (nI 0), .int (nI 4)]) (rest := []) C (c_X12_within l D cs y (nI 0) (nI 4)) kX12_116 hP hD [] rfl (by decide +kernel) ⟨Nat.le_of_ble_eq_true rfl, Nat.le_of_ble_eq_true rfl⟩ rfl hl.1 rfl (Nat.le_of_ble_eq_true rfl) dX12_colours_21 ⟨Nat.le_of_ble_eq_true rfl, Nat.le_of_ble_eq_true rfl⟩) hP hD hS hA [] [0, 1, 2, 3, 4, 5, 6] rfl rfl (by decide +kernel) (by decide +kernel) ?_
    clear hP hD hS
    try clear locs
    try clear H
    intro r_4 u_5 H locs hw_r_4 hP hD hS
    have hw_r_4 : PQ (¬ y < (nI 0) ∧ y ≤ (nI 4)) r_4 (nI 1) (nI 0) := hw_r_4
    refine W.widen (k := 0) (n := 0) (Nat.le_of_ble_eq_true rfl) (Nat.le_of_ble_eq_true rfl) ?_
    replace hP : va_P D vwCl [(hm, .inr (12, [.ref ms, .ref mkp, .int (nI 0), .ref mtr, .int (nI 4), .int (nI 2), .int (nI 2), .int (nI 3), .int (nI 2), .int (nI 1), .ref mas, .int (nI 0), .int (nI 0), .int (nI 0), .ref mso, .ref mon, .ref mot, .ref man, .int (nI 0), .int (nI 0), .ref mst, .ref msm, .ref mtb, .ref mti, .ref mfr, .ref mbn, .ref mbs, .ref mde, .int (nI 0), .int (nI 0), .int (nI 0), .int (nI 0), .long 0, .long 0, .ref maa, .ref mab, .ref mba, .ref mbb])), (ms, .inl (cs 0, 288, .inl freshS)), (mtr, .inl (cs 0, 288, .inl tf)), (msm, .inl (cs 0, 2, .inl (fun _ => 0))), (mst, .inl (cs 5, 2, .inr (.inr (.inr (.inr (fun _ => none)))))), (mtb, .inl (cs 5, 2, .inr (.inr (.inr (.inr (fun _ => none)))))), (mti, .inl (cs 6, 2, .inr (.inr (.inr (.inr (fun _ => none))))))] H := hP
    replace hD : va_D A [(hm, .inr (12, [.ref ms, .ref mkp, .int (nI 0), .ref mtr, .int (nI 4), .int (nI 2), .int (nI 2), .int (nI 3), .int (nI 2), .int (nI 1), .ref mas, .int (nI 0), .int (nI 0), .int (nI 0), .ref mso, .ref mon, .ref mot, .ref man, .int (nI 0), .int (nI 0), .ref mst, .ref msm, .ref mtb, .ref mti, .ref mfr, .ref mbn, .ref mbs, .ref mde, .int (nI 0), .int (nI 0), .int (nI 0), .int (nI 0), .long 0, .long 0, .ref maa, .ref mab, .ref mba, .ref mbb])), (ms, .inl (cs 0, 288, .inl freshS)), (mtr, .inl (cs 0, 288, .inl tf)), (msm, .inl (cs 0, 2, .inl (fun _ => 0))), (mst, .inl (cs 5, 2, .inr (.inr (.inr (.inr (fun _ => none)))))), (mtb, .inl (cs 5, 2, .inr (.inr (.inr (.inr (fun _ => none)))))), (mti, .inl (cs 6, 2, .inr (.inr (.inr (.inr (fun _ => none))))))] := hD
    refine lv_if_ne (tgt := 31) hx hb dX12_colours_24 (by decide) (fun c_6 => ?_) (fun c_6 => ?_)
    · -- 24 t
      have hy_b := PQ.yes hw_r_4 c_6
      refine lv_aload_n hx hb dX12_colours_31 rfl (lv_at hl 0 rfl) ?_
      refine lv_iload_n hx hb dX12_colours_32 rfl (lv_at hl 1 rfl) ?_
      refine xl (wr := [(ms, .inl (cs 0, 288, .inl freshS)), (mtr, .inl (cs 0, 288, .inl tf)), (msm, .inl (cs 0, 2, .inl (fun _ => 0))), (mst, .inl (cs 5, 2, .inr (.inr (.inr (.inr (fun _ => none)))))), (mtb, .inl (cs 5, 2, .inr (.inr (.inr (.inr (fun _ => none)))))), (mti, .inl (cs 6, 2, .inr (.inr (.inr (.inr (fun _ => none))))))]) (xV (As := [.int (nI t)]) (rest := []) C (c_X12_waysOf_z l D cs hm ms mkp mtr mas mso mon mot man mst msm mtb mti mfr mbn mbs mde maa mab mba mbb t ht.2) kX12_221 hP hD [0] rfl (by decide +kernel) 0 rfl rfl rfl ⟨Nat.le_of_ble_eq_true rfl, Nat.le_of_ble_eq_true rfl⟩ rfl hl.1 rfl (Nat.le_of_ble_eq_true rfl) dX12_colours_33 ⟨Nat.le_of_ble_eq_true rfl, Nat.le_of_ble_eq_true rfl⟩) hP hD hS hA [0] [1, 2, 3, 4, 5, 6] rfl rfl (by decide +kernel) (by decide +kernel) ?_
      clear hP hD hS
      try clear locs
      try clear H
      intro r_7 u_8 H locs hw_r_7 hP hD hS
      have hw_r_7 : r_7 = lN (12 ^ t) := hw_r_7
      refine W.widen (k := 0) (n := 0) (Nat.le_of_ble_eq_true rfl) (Nat.le_of_ble_eq_true rfl) ?_
      replace hP : va_P D vwCl [(ms, .inl (cs 0, 288, .inl freshS)), (mtr, .inl (cs 0, 288, .inl tf)), (msm, .inl (cs 0, 2, .inl (fun _ => 0))), (mst, .inl (cs 5, 2, .inr (.inr (.inr (.inr (fun _ => none)))))), (mtb, .inl (cs 5, 2, .inr (.inr (.inr (.inr (fun _ => none)))))), (mti, .inl (cs 6, 2, .inr (.inr (.inr (.inr (fun _ => none)))))), (hm, .inr (12, [.ref ms, .ref mkp, .int (nI 0), .ref mtr, .int (nI 4), .int (nI 2), .int (nI 2), .int (nI 3), .int (nI 2), .int (nI 1), .ref mas, .int (nI 0), .int (nI 0), .int (nI 0), .ref mso, .ref mon, .ref mot, .ref man, .int (nI 0), .int (nI 0), .ref mst, .ref msm, .ref mtb, .ref mti, .ref mfr, .ref mbn, .ref mbs, .ref mde, .int (nI 0), .int (nI 0), .int (nI 0), .int (nI 0), .long 0, .long 0, .ref maa, .ref mab, .ref mba, .ref mbb]))] H := hP
      replace hD : va_D A [(ms, .inl (cs 0, 288, .inl freshS)), (mtr, .inl (cs 0, 288, .inl tf)), (msm, .inl (cs 0, 2, .inl (fun _ => 0))), (mst, .inl (cs 5, 2, .inr (.inr (.inr (.inr (fun _ => none)))))), (mtb, .inl (cs 5, 2, .inr (.inr (.inr (.inr (fun _ => none)))))), (mti, .inl (cs 6, 2, .inr (.inr (.inr (.inr (fun _ => none)))))), (hm, .inr (12, [.ref ms, .ref mkp, .int (nI 0), .ref mtr, .int (nI 4), .int (nI 2), .int (nI 2), .int (nI 3), .int (nI 2), .int (nI 1), .ref mas, .int (nI 0), .int (nI 0), .int (nI 0), .ref mso, .ref mon, .ref mot, .ref man, .int (nI 0), .int (nI 0), .ref mst, .ref msm, .ref mtb, .ref mti, .ref mfr, .ref mbn, .ref mbs, .ref mde, .int (nI 0), .int (nI 0), .int (nI 0), .int (nI 0), .long 0, .long 0, .ref maa, .ref mab, .ref mba, .ref mbb]))] := hD
      subst hw_r_7
      refine lv_lconst (v := 0) hx hb dX12_colours_36 (by decide) ?_
      refine W.lcmp hx hb dX12_colours_37 ?_
      refine lv_if_ge (tgt := 47) hx hb dX12_colours_38 (by decide) (fun _ => ?_) (fun c => absurd ((lg_cmp_ge _ _).mpr (Int64.not_lt.mp (fun q => ways_cmp0 t ht.2 ((lg_cmp_lt _ _).mpr q)))) c)
      refine lv_aload_n hx hb dX12_colours_47 rfl (lv_at hl 0 rfl) ?_
      refine lv_iload_n hx hb dX12_colours_48 rfl (lv_at hl 1 rfl) ?_
      refine lv_iconst (v := nI 3) hx hb dX12_colours_49 (by decide) ?_
      refine lv_iload_n hx hb dX12_colours_50 rfl (lv_at hl 2 rfl) ?_
      refine xl (wr := []) (xV (As := [.int (nI t), .int (nI 3), .int y]) (rest := []) C (c_X12_counted_3 l D cs hm ms mkp mtr mas mso mon mot man mst msm mtb mti mfr mbn mbs mde maa mab mba mbb tf t y ht.1 ht.2) kX12_227 hP hD [6, 0, 1, 2, 3, 4, 5] rfl (by decide +kernel) 0 rfl rfl rfl ⟨Nat.le_of_ble_eq_true rfl, Nat.le_of_ble_eq_true rfl⟩ rfl hl.1 rfl (Nat.le_of_ble_eq_true rfl) dX12_colours_51 ⟨Nat.le_of_ble_eq_true rfl, Nat.le_of_ble_eq_true rfl⟩) hP hD hS hA [6, 0, 1, 2, 3, 4, 5] [] rfl rfl (by decide +kernel) (by decide +kernel) ?_
      clear hP hD hS
      try clear locs
      try clear H
      intro r_9 u_10 H locs hw_r_9 hP hD hS
      have hw_r_9 : r_9 = if y = 0 then lN (12 ^ t) else 0 := hw_r_9
      refine W.widen (k := 6) (n := 212482) (Nat.le_of_ble_eq_true rfl) (Nat.le_of_ble_eq_true rfl) ?_
      replace hP : va_P D vwCl [] H := hP
      replace hD : va_D A [] := hD
      subst hw_r_9
      exact xretl C () ((coV_t ht hy_b).symm) hP hD hS (Nat.le_of_ble_eq_true rfl) (Nat.le_of_ble_eq_true rfl) dX12_colours_54
    · -- 24 f
      have hn_b := PQ.no hw_r_4 c_6 (by decide)
      refine lv_ldc2 (v := (-1)) hx hb hown (hz _ zw6_193) dX12_colours_27 ?_
      exact xretl C () ((coV_w hn_b).symm) (xP_map hP [] rfl) (hD.sub [] (by decide +kernel) rfl) hS (Nat.le_of_ble_eq_true rfl) (Nat.le_of_ble_eq_true rfl) dX12_colours_30

set_option maxHeartbeats 4000000 in
set_option maxRecDepth 100000 in
theorem c_Jxf58ca_isNaN_12338 (l : Launch) (D : va_G) (cs : Nat → ClassId) : xMet l D cs yJxf58ca_isNaN_12338 cJxf58ca_isNaN_12338 1 (some .boolean) ({ frames := 0, cells := 0, slots := 0, locals := 0 } : Room) [.float 0] [] (xQi D (fun (r : Int32) (_u : Unit) => r = nI 0) (fun (_u : Unit) => [])) := by
  refine xMet.introF (by decide +kernel) (Nat.le_of_ble_eq_true rfl) ?_
  intro p e s m args below meth c A ls C hP hD hS hl
  have hx := C.1
  have hb := C.2.1
  have hz := C.2.2.2.2.1
  have hown := C.2.2.2.1
  have hA := C.2.2.2.2.2.2.2.2.2
  have hAO := C.2.2.2.2.2.2.2.2.1.2.2
  replace hl : lv_has ls 1 [(0, .float 0)] := hl
  obtain ⟨H, hH⟩ : ∃ H, H = s.heap := ⟨_, rfl⟩
  replace hP : va_P D vwCl [] H := by rw [hH]; exact hP
  replace hS : va_S A s.heap H [] := by rw [hH]; exact hS
  obtain ⟨locs, hlocs⟩ : ∃ z : List Loc, z = [] := ⟨_, rfl⟩
  rw [← hlocs] at hS
  suffices hW : W p l e ({ frames := 0, cells := 0, slots := 0, locals := 0 } : Room) s m args below meth c H locs 0 0 (MQ below ((xQi D (fun (r : Int32) (_u : Unit) => r = nI 0) (fun (_u : Unit) => [])) A) args s 0 0 A) (F0 m 0 ls []) by rw [hlocs, hH] at hW; exact hW
  clear hH hlocs
  refine lv_fload_n hx hb dJxf58ca_isNaN_12338_0 rfl (lv_at hl 0 rfl) ?_
  refine lv_fload_n hx hb dJxf58ca_isNaN_12338_1 rfl (lv_at hl 0 rfl) ?_
  refine lv_fcmp hx hb dJxf58ca_isNaN_12338_2 ?_
  refine lv_topi (nm_r (e' := nI 0) (by decide +kernel) ?_)
  refine lv_if_eq (tgt := 10) hx hb dJxf58ca_isNaN_12338_3 (by decide) (fun _ => ?_) (fun c => absurd (by decide) c)
  refine lv_iconst (v := nI 0) hx hb dJxf58ca_isNaN_12338_10 (by decide) ?_
  exact xreti C () rfl hP hD hS (Nat.le_of_ble_eq_true rfl) (Nat.le_of_ble_eq_true rfl) (by decide) dJxf58ca_isNaN_12338_11

set_option maxHeartbeats 4000000 in
set_option maxRecDepth 100000 in
theorem c_Jxf58ca_floatToIntBits_5c35a (l : Launch) (D : va_G) (cs : Nat → ClassId) : xMet l D cs yJxf58ca_floatToIntBits_5c35a cJxf58ca_floatToIntBits_5c35a 1 (some .int) ({ frames := 1, cells := 0, slots := 0, locals := 23 } : Room) [.float 0] [] (xQi D (fun (r : Int32) (_u : Unit) => r = 0) (fun (_u : Unit) => [])) := by
  refine xMet.introF (by decide +kernel) (Nat.le_of_ble_eq_true rfl) ?_
  intro p e s m args below meth c A ls C hP hD hS hl
  have hx := C.1
  have hb := C.2.1
  have hz := C.2.2.2.2.1
  have hown := C.2.2.2.1
  have hA := C.2.2.2.2.2.2.2.2.2
  have hAO := C.2.2.2.2.2.2.2.2.1.2.2
  replace hl : lv_has ls 1 [(0, .float 0)] := hl
  obtain ⟨H, hH⟩ : ∃ H, H = s.heap := ⟨_, rfl⟩
  replace hP : va_P D vwCl [] H := by rw [hH]; exact hP
  replace hS : va_S A s.heap H [] := by rw [hH]; exact hS
  obtain ⟨locs, hlocs⟩ : ∃ z : List Loc, z = [] := ⟨_, rfl⟩
  rw [← hlocs] at hS
  suffices hW : W p l e ({ frames := 1, cells := 0, slots := 0, locals := 23 } : Room) s m args below meth c H locs 0 0 (MQ below ((xQi D (fun (r : Int32) (_u : Unit) => r = 0) (fun (_u : Unit) => [])) A) args s 0 0 A) (F0 m 0 ls []) by rw [hlocs, hH] at hW; exact hW
  clear hH hlocs
  refine lv_fload_n hx hb dJxf58ca_floatToIntBits_5c35a_0 rfl (lv_at hl 0 rfl) ?_
  refine xi (wr := []) (xS (As := [.float 0]) (rest := []) C (c_Jxf58ca_isNaN_12338 l D cs ) kJxf58ca_59 hP hD [] rfl (by decide +kernel) ⟨Nat.le_of_ble_eq_true rfl, Nat.le_of_ble_eq_true rfl⟩ rfl hl.1 rfl (Nat.le_of_ble_eq_true rfl) dJxf58ca_floatToIntBits_5c35a_1 ⟨Nat.le_of_ble_eq_true rfl, Nat.le_of_ble_eq_true rfl⟩) hP hD hS hA [] [] rfl rfl (by decide +kernel) (by decide +kernel) ?_
  clear hP hD hS
  try clear locs
  try clear H
  intro r_1 u_2 H locs hw_r_1 hP hD hS
  have hw_r_1 : r_1 = nI 0 := hw_r_1
  refine W.widen (k := 0) (n := 0) (Nat.le_of_ble_eq_true rfl) (Nat.le_of_ble_eq_true rfl) ?_
  replace hP : va_P D vwCl [] H := hP
  replace hD : va_D A [] := hD
  subst hw_r_1
  refine lv_if_ne (tgt := 12) hx hb dJxf58ca_floatToIntBits_5c35a_4 (by decide) (fun c => absurd (by decide) c) (fun _ => ?_)
  refine lv_fload_n hx hb dJxf58ca_floatToIntBits_5c35a_7 rfl (lv_at hl 0 rfl) ?_
  refine vn_f2i hx hb (C.2.2.1.trans hl.1.symm) hown (hz _ zw7_35) (hz _ zw7_37) (hz _ zw7_36) (hz _ zw1_19) (Nat.le_of_ble_eq_true rfl) (Nat.le_of_ble_eq_true rfl) dJxf58ca_floatToIntBits_5c35a_8 ?_
  refine lv_topi (nm_r (e' := (0 : Int32)) (by decide) ?_)
  exact xreti C () rfl hP hD hS (Nat.le_of_ble_eq_true rfl) (Nat.le_of_ble_eq_true rfl) rfl dJxf58ca_floatToIntBits_5c35a_11

set_option maxHeartbeats 4000000 in
set_option maxRecDepth 100000 in
theorem c_X12_odds (l : Launch) (D : va_G) (cs : Nat → ClassId) (hm ms mkp mtr mas mso mon mot man mst msm mtb mti mfr mbn mbs mde maa mab mba mbb : Nat) (tf : Nat → Int32) (x : Int32) : xMet l D cs yX12_odds cX12_odds 8 (some .int) ({ frames := 6, cells := 6, slots := 212482, locals := 142 } : Room) [.ref hm, .int x] [(hm, .inr (12, [.ref ms, .ref mkp, .int (nI 0), .ref mtr, .int (nI 4), .int (nI 2), .int (nI 2), .int (nI 3), .int (nI 2), .int (nI 1), .ref mas, .int (nI 0), .int (nI 0), .int (nI 0), .ref mso, .ref mon, .ref mot, .ref man, .int (nI 0), .int (nI 0), .ref mst, .ref msm, .ref mtb, .ref mti, .ref mfr, .ref mbn, .ref mbs, .ref mde, .int (nI 0), .int (nI 0), .int (nI 0), .int (nI 0), .long 0, .long 0, .ref maa, .ref mab, .ref mba, .ref mbb])), (ms, .inl (cs 0, 288, .inl freshS)), (mtr, .inl (cs 0, 288, .inl tf)), (msm, .inl (cs 0, 2, .inl (fun _ => 0))), (mst, .inl (cs 5, 2, .inr (.inr (.inr (.inr (fun _ => none)))))), (mtb, .inl (cs 5, 2, .inr (.inr (.inr (.inr (fun _ => none)))))), (mti, .inl (cs 6, 2, .inr (.inr (.inr (.inr (fun _ => none))))))] (xQi D (fun (r : Int32) (_u : Unit) => r = odV x) (fun (_u : Unit) => [])) := by
  refine xMet.intro (by decide) (Nat.le_of_ble_eq_true rfl) ?_
  intro p e s m args below meth c A ls C hP hD hS hl
  have hx := C.1
  have hb := C.2.1
  have hz := C.2.2.2.2.1
  have hown := C.2.2.2.1
  have hA := C.2.2.2.2.2.2.2.2.2
  have hAO := C.2.2.2.2.2.2.2.2.1.2.2
  replace hl : lv_has ls 8 [(0, .ref hm), (1, .int x)] := hl
  obtain ⟨H, hH⟩ : ∃ H, H = s.heap := ⟨_, rfl⟩
  replace hP : va_P D vwCl [(hm, .inr (12, [.ref ms, .ref mkp, .int (nI 0), .ref mtr, .int (nI 4), .int (nI 2), .int (nI 2), .int (nI 3), .int (nI 2), .int (nI 1), .ref mas, .int (nI 0), .int (nI 0), .int (nI 0), .ref mso, .ref mon, .ref mot, .ref man, .int (nI 0), .int (nI 0), .ref mst, .ref msm, .ref mtb, .ref mti, .ref mfr, .ref mbn, .ref mbs, .ref mde, .int (nI 0), .int (nI 0), .int (nI 0), .int (nI 0), .long 0, .long 0, .ref maa, .ref mab, .ref mba, .ref mbb])), (ms, .inl (cs 0, 288, .inl freshS)), (mtr, .inl (cs 0, 288, .inl tf)), (msm, .inl (cs 0, 2, .inl (fun _ => 0))), (mst, .inl (cs 5, 2, .inr (.inr (.inr (.inr (fun _ => none)))))), (mtb, .inl (cs 5, 2, .inr (.inr (.inr (.inr (fun _ => none)))))), (mti, .inl (cs 6, 2, .inr (.inr (.inr (.inr (fun _ => none))))))] H := by rw [hH]; exact hP
  replace hS : va_S A s.heap H [] := by rw [hH]; exact hS
  obtain ⟨locs, hlocs⟩ : ∃ z : List Loc, z = [] := ⟨_, rfl⟩
  rw [← hlocs] at hS
  suffices hW : W p l e ({ frames := 6, cells := 6, slots := 212482, locals := 142 } : Room) s m args below meth c H locs 0 0 (MQ below ((xQi D (fun (r : Int32) (_u : Unit) => r = odV x) (fun (_u : Unit) => [])) A) args s 6 212482 A) (F0 m 0 ls []) by rw [hlocs, hH] at hW; exact hW
  clear hH hlocs
  refine lv_aload_n hx hb dX12_odds_0 rfl (lv_at hl 0 rfl) ?_
  refine lv_iconst (v := nI 0) hx hb dX12_odds_1 (by decide) ?_
  refine xput C hP hD hS 0 rfl rfl zuX12 tyX12 tyX12_ok nmX12 18 (by decide) zw5_231 rfl rfl rfl (Nat.le_of_ble_eq_true rfl) dX12_odds_2 ?_
  clear hP hD hS
  try clear locs
  try clear H
  intro H locs hP hD hS
  replace hP : va_P D vwCl [(hm, .inr (12, [.ref ms, .ref mkp, .int (nI 0), .ref mtr, .int (nI 4), .int (nI 2), .int (nI 2), .int (nI 3), .int (nI 2), .int (nI 1), .ref mas, .int (nI 0), .int (nI 0), .int (nI 0), .ref mso, .ref mon, .ref mot, .ref man, .int (nI 0), .int (nI 0), .ref mst, .ref msm, .ref mtb, .ref mti, .ref mfr, .ref mbn, .ref mbs, .ref mde, .int (nI 0), .int (nI 0), .int (nI 0), .int (nI 0), .long 0, .long 0, .ref maa, .ref mab, .ref mba, .ref mbb])), (ms, .inl (cs 0, 288, .inl freshS)), (mtr, .inl (cs 0, 288, .inl tf)), (msm, .inl (cs 0, 2, .inl (fun _ => 0))), (mst, .inl (cs 5, 2, .inr (.inr (.inr (.inr (fun _ => none)))))), (mtb, .inl (cs 5, 2, .inr (.inr (.inr (.inr (fun _ => none)))))), (mti, .inl (cs 6, 2, .inr (.inr (.inr (.inr (fun _ => none))))))] H := hP
  replace hD : va_D A [(hm, .inr (12, [.ref ms, .ref mkp, .int (nI 0), .ref mtr, .int (nI 4), .int (nI 2), .int (nI 2), .int (nI 3), .int (nI 2), .int (nI 1), .ref mas, .int (nI 0), .int (nI 0), .int (nI 0), .ref mso, .ref mon, .ref mot, .ref man, .int (nI 0), .int (nI 0), .ref mst, .ref msm, .ref mtb, .ref mti, .ref mfr, .ref mbn, .ref mbs, .ref mde, .int (nI 0), .int (nI 0), .int (nI 0), .int (nI 0), .long 0, .long 0, .ref maa, .ref mab, .ref mba, .ref mbb])), (ms, .inl (cs 0, 288, .inl freshS)), (mtr, .inl (cs 0, 288, .inl tf)), (msm, .inl (cs 0, 2, .inl (fun _ => 0))), (mst, .inl (cs 5, 2, .inr (.inr (.inr (.inr (fun _ => none)))))), (mtb, .inl (cs 5, 2, .inr (.inr (.inr (.inr (fun _ => none)))))), (mti, .inl (cs 6, 2, .inr (.inr (.inr (.inr (fun _ => none))))))] := hD
  refine lv_iload_n hx hb dX12_odds_5 rfl (lv_at hl 1 rfl) ?_
  refine lv_iconst (v := nI 1) hx hb dX12_odds_6 (by decide) ?_
  refine lv_bipush (v := nI 12) hx hb dX12_odds_7 (by decide) ?_
  refine xi (wr := [(hm, .inr (12, [.ref ms, .ref mkp, .int (nI 0), .ref mtr, .int (nI 4), .int (nI 2), .int (nI 2), .int (nI 3), .int (nI 2), .int (nI 1), .ref mas, .int (nI 0), .int (nI 0), .int (nI 0), .ref mso, .ref mon, .ref mot, .ref man, .int (nI 0), .int (nI 0), .ref mst, .ref msm, .ref mtb, .ref mti, .ref mfr, .ref mbn, .ref mbs, .ref mde, .int (nI 0), .int (nI 0), .int (nI 0), .int (nI 0), .long 0, .long 0, .ref maa, .ref mab, .ref mba, .ref mbb])), (ms, .inl (cs 0, 288, .inl freshS)), (mtr, .inl (cs 0, 288, .inl tf)), (msm, .inl (cs 0, 2, .inl (fun _ => 0))), (mst, .inl (cs 5, 2, .inr (.inr (.inr (.inr (fun _ => none)))))), (mtb, .inl (cs 5, 2, .inr (.inr (.inr (.inr (fun _ => none)))))), (mti, .inl (cs 6, 2, .inr (.inr (.inr (.inr (fun _ => none))))))]) (xS (As := [.int x, .int (nI 1), .int (nI 12)]) (rest := []) C (c_X12_within l D cs x (nI 1) (nI 12)) kX12_116 hP hD [] rfl (by decide +kernel) ⟨Nat.le_of_ble_eq_true rfl, Nat.le_of_ble_eq_true rfl⟩ rfl hl.1 rfl (Nat.le_of_ble_eq_true rfl) dX12_odds_9 ⟨Nat.le_of_ble_eq_true rfl, Nat.le_of_ble_eq_true rfl⟩) hP hD hS hA [] [0, 1, 2, 3, 4, 5, 6] rfl rfl (by decide +kernel) (by decide +kernel) ?_
  clear hP hD hS
  try clear locs
  try clear H
  intro r_1 u_2 H locs hw_r_1 hP hD hS
  have hw_r_1 : PQ (¬ x < (nI 1) ∧ x ≤ (nI 12)) r_1 (nI 1) (nI 0) := hw_r_1
  refine W.widen (k := 0) (n := 0) (Nat.le_of_ble_eq_true rfl) (Nat.le_of_ble_eq_true rfl) ?_
  replace hP : va_P D vwCl [(hm, .inr (12, [.ref ms, .ref mkp, .int (nI 0), .ref mtr, .int (nI 4), .int (nI 2), .int (nI 2), .int (nI 3), .int (nI 2), .int (nI 1), .ref mas, .int (nI 0), .int (nI 0), .int (nI 0), .ref mso, .ref mon, .ref mot, .ref man, .int (nI 0), .int (nI 0), .ref mst, .ref msm, .ref mtb, .ref mti, .ref mfr, .ref mbn, .ref mbs, .ref mde, .int (nI 0), .int (nI 0), .int (nI 0), .int (nI 0), .long 0, .long 0, .ref maa, .ref mab, .ref mba, .ref mbb])), (ms, .inl (cs 0, 288, .inl freshS)), (mtr, .inl (cs 0, 288, .inl tf)), (msm, .inl (cs 0, 2, .inl (fun _ => 0))), (mst, .inl (cs 5, 2, .inr (.inr (.inr (.inr (fun _ => none)))))), (mtb, .inl (cs 5, 2, .inr (.inr (.inr (.inr (fun _ => none)))))), (mti, .inl (cs 6, 2, .inr (.inr (.inr (.inr (fun _ => none))))))] H := hP
  replace hD : va_D A [(hm, .inr (12, [.ref ms, .ref mkp, .int (nI 0), .ref mtr, .int (nI 4), .int (nI 2), .int (nI 2), .int (nI 3), .int (nI 2), .int (nI 1), .ref mas, .int (nI 0), .int (nI 0), .int (nI 0), .ref mso, .ref mon, .ref mot, .ref man, .int (nI 0), .int (nI 0), .ref mst, .ref msm, .ref mtb, .ref mti, .ref mfr, .ref mbn, .ref mbs, .ref mde, .int (nI 0), .int (nI 0), .int (nI 0), .int (nI 0), .long 0, .long 0, .ref maa, .ref mab, .ref mba, .ref mbb])), (ms, .inl (cs 0, 288, .inl freshS)), (mtr, .inl (cs 0, 288, .inl tf)), (msm, .inl (cs 0, 2, .inl (fun _ => 0))), (mst, .inl (cs 5, 2, .inr (.inr (.inr (.inr (fun _ => none)))))), (mtb, .inl (cs 5, 2, .inr (.inr (.inr (.inr (fun _ => none)))))), (mti, .inl (cs 6, 2, .inr (.inr (.inr (.inr (fun _ => none))))))] := hD
  refine lv_if_ne (tgt := 17) hx hb dX12_odds_12 (by decide) (fun c_3 => ?_) (fun c_3 => ?_)
  · -- 12 t
    have hy_a := PQ.yes hw_r_1 c_3
    obtain ⟨t, ht, rfl⟩ := told hy_a.1 (Int32.not_lt.mpr hy_a.2)
    replace hP : va_P D vwCl [(hm, .inr (12, [.ref ms, .ref mkp, .int (nI 0), .ref mtr, .int (nI 4), .int (nI 2), .int (nI 2), .int (nI 3), .int (nI 2), .int (nI 1), .ref mas, .int (nI 0), .int (nI 0), .int (nI 0), .ref mso, .ref mon, .ref mot, .ref man, .int (nI 0), .int (nI 0), .ref mst, .ref msm, .ref mtb, .ref mti, .ref mfr, .ref mbn, .ref mbs, .ref mde, .int (nI 0), .int (nI 0), .int (nI 0), .int (nI 0), .long 0, .long 0, .ref maa, .ref mab, .ref mba, .ref mbb])), (ms, .inl (cs 0, 288, .inl freshS)), (mtr, .inl (cs 0, 288, .inl tf)), (msm, .inl (cs 0, 2, .inl (fun _ => 0))), (mst, .inl (cs 5, 2, .inr (.inr (.inr (.inr (fun _ => none)))))), (mtb, .inl (cs 5, 2, .inr (.inr (.inr (.inr (fun _ => none)))))), (mti, .inl (cs 6, 2, .inr (.inr (.inr (.inr (fun _ => none))))))] H := hP
    replace hD : va_D A [(hm, .inr (12, [.ref ms, .ref mkp, .int (nI 0), .ref mtr, .int (nI 4), .int (nI 2), .int (nI 2), .int (nI 3), .int (nI 2), .int (nI 1), .ref mas, .int (nI 0), .int (nI 0), .int (nI 0), .ref mso, .ref mon, .ref mot, .ref man, .int (nI 0), .int (nI 0), .ref mst, .ref msm, .ref mtb, .ref mti, .ref mfr, .ref mbn, .ref mbs, .ref mde, .int (nI 0), .int (nI 0), .int (nI 0), .int (nI 0), .long 0, .long 0, .ref maa, .ref mab, .ref mba, .ref mbb])), (ms, .inl (cs 0, 288, .inl freshS)), (mtr, .inl (cs 0, 288, .inl tf)), (msm, .inl (cs 0, 2, .inl (fun _ => 0))), (mst, .inl (cs 5, 2, .inr (.inr (.inr (.inr (fun _ => none)))))), (mtb, .inl (cs 5, 2, .inr (.inr (.inr (.inr (fun _ => none)))))), (mti, .inl (cs 6, 2, .inr (.inr (.inr (.inr (fun _ => none))))))] := hD
    refine lv_aload_n hx hb dX12_odds_17 rfl (lv_at hl 0 rfl) ?_
    refine lv_iload_n hx hb dX12_odds_18 rfl (lv_at hl 1 rfl) ?_
    refine xl (wr := [(ms, .inl (cs 0, 288, .inl freshS)), (mtr, .inl (cs 0, 288, .inl tf)), (msm, .inl (cs 0, 2, .inl (fun _ => 0))), (mst, .inl (cs 5, 2, .inr (.inr (.inr (.inr (fun _ => none)))))), (mtb, .inl (cs 5, 2, .inr (.inr (.inr (.inr (fun _ => none)))))), (mti, .inl (cs 6, 2, .inr (.inr (.inr (.inr (fun _ => none))))))]) (xV (As := [.int (nI t)]) (rest := []) C (c_X12_waysOf_z l D cs hm ms mkp mtr mas mso mon mot man mst msm mtb mti mfr mbn mbs mde maa mab mba mbb t ht.2) kX12_221 hP hD [0] rfl (by decide +kernel) 0 rfl rfl rfl ⟨Nat.le_of_ble_eq_true rfl, Nat.le_of_ble_eq_true rfl⟩ rfl hl.1 rfl (Nat.le_of_ble_eq_true rfl) dX12_odds_19 ⟨Nat.le_of_ble_eq_true rfl, Nat.le_of_ble_eq_true rfl⟩) hP hD hS hA [0] [1, 2, 3, 4, 5, 6] rfl rfl (by decide +kernel) (by decide +kernel) ?_
    clear hP hD hS
    try clear locs
    try clear H
    intro r_4 u_5 H locs hw_r_4 hP hD hS
    have hw_r_4 : r_4 = lN (12 ^ t) := hw_r_4
    refine W.widen (k := 0) (n := 0) (Nat.le_of_ble_eq_true rfl) (Nat.le_of_ble_eq_true rfl) ?_
    replace hP : va_P D vwCl [(ms, .inl (cs 0, 288, .inl freshS)), (mtr, .inl (cs 0, 288, .inl tf)), (msm, .inl (cs 0, 2, .inl (fun _ => 0))), (mst, .inl (cs 5, 2, .inr (.inr (.inr (.inr (fun _ => none)))))), (mtb, .inl (cs 5, 2, .inr (.inr (.inr (.inr (fun _ => none)))))), (mti, .inl (cs 6, 2, .inr (.inr (.inr (.inr (fun _ => none)))))), (hm, .inr (12, [.ref ms, .ref mkp, .int (nI 0), .ref mtr, .int (nI 4), .int (nI 2), .int (nI 2), .int (nI 3), .int (nI 2), .int (nI 1), .ref mas, .int (nI 0), .int (nI 0), .int (nI 0), .ref mso, .ref mon, .ref mot, .ref man, .int (nI 0), .int (nI 0), .ref mst, .ref msm, .ref mtb, .ref mti, .ref mfr, .ref mbn, .ref mbs, .ref mde, .int (nI 0), .int (nI 0), .int (nI 0), .int (nI 0), .long 0, .long 0, .ref maa, .ref mab, .ref mba, .ref mbb]))] H := hP
    replace hD : va_D A [(ms, .inl (cs 0, 288, .inl freshS)), (mtr, .inl (cs 0, 288, .inl tf)), (msm, .inl (cs 0, 2, .inl (fun _ => 0))), (mst, .inl (cs 5, 2, .inr (.inr (.inr (.inr (fun _ => none)))))), (mtb, .inl (cs 5, 2, .inr (.inr (.inr (.inr (fun _ => none)))))), (mti, .inl (cs 6, 2, .inr (.inr (.inr (.inr (fun _ => none)))))), (hm, .inr (12, [.ref ms, .ref mkp, .int (nI 0), .ref mtr, .int (nI 4), .int (nI 2), .int (nI 2), .int (nI 3), .int (nI 2), .int (nI 1), .ref mas, .int (nI 0), .int (nI 0), .int (nI 0), .ref mso, .ref mon, .ref mot, .ref man, .int (nI 0), .int (nI 0), .ref mst, .ref msm, .ref mtb, .ref mti, .ref mfr, .ref mbn, .ref mbs, .ref mde, .int (nI 0), .int (nI 0), .int (nI 0), .int (nI 0), .long 0, .long 0, .ref maa, .ref mab, .ref mba, .ref mbb]))] := hD
    subst hw_r_4
    refine lv_lstore_n (lv' := [(2, .long (lN (12 ^ t))), (0, .ref hm), (1, .int (nI t))]) hx hb dX12_odds_22 rfl hl (by decide) rfl ?_
    clear hl
    try clear ls
    intro ls hl
    refine lv_lload_n hx hb dX12_odds_23 rfl (lv_at hl 0 rfl) ?_
    refine lv_lconst (v := 0) hx hb dX12_odds_24 (by decide) ?_
    refine W.lcmp hx hb dX12_odds_25 ?_
    refine lv_if_ge (tgt := 32) hx hb dX12_odds_26 (by decide) (fun _ => ?_) (fun c => absurd ((lg_cmp_ge _ _).mpr (Int64.not_lt.mp (fun q => ways_cmp0 t ht.2 ((lg_cmp_lt _ _).mpr q)))) c)
    refine lv_aload_n hx hb dX12_odds_32 rfl (lv_at hl 1 rfl) ?_
    refine lv_iload_n hx hb dX12_odds_33 rfl (lv_at hl 2 rfl) ?_
    refine lv_iconst (v := nI 1) hx hb dX12_odds_34 (by decide) ?_
    refine lv_iconst (v := nI 0) hx hb dX12_odds_35 (by decide) ?_
    refine xl (wr := []) (xV (As := [.int (nI t), .int (nI 1), .int (nI 0)]) (rest := []) C (c_X12_counted_1 l D cs hm ms mkp mtr mas mso mon mot man mst msm mtb mti mfr mbn mbs mde maa mab mba mbb tf t ht.1 ht.2) kX12_227 hP hD [6, 0, 1, 2, 3, 4, 5] rfl (by decide +kernel) 0 rfl rfl rfl ⟨Nat.le_of_ble_eq_true rfl, Nat.le_of_ble_eq_true rfl⟩ rfl hl.1 rfl (Nat.le_of_ble_eq_true rfl) dX12_odds_36 ⟨Nat.le_of_ble_eq_true rfl, Nat.le_of_ble_eq_true rfl⟩) hP hD hS hA [6, 0, 1, 2, 3, 4, 5] [] rfl rfl (by decide +kernel) (by decide +kernel) ?_
    clear hP hD hS
    try clear locs
    try clear H
    intro r_6 u_7 H locs hw_r_6 hP hD hS
    have hw_r_6 : r_6 = 0 := hw_r_6
    refine W.widen (k := 6) (n := 212482) (Nat.le_of_ble_eq_true rfl) (Nat.le_of_ble_eq_true rfl) ?_
    replace hP : va_P D vwCl [] H := hP
    replace hD : va_D A [] := hD
    subst hw_r_6
    refine lv_lstore (lv' := [(4, .long 0), (2, .long (lN (12 ^ t))), (0, .ref hm), (1, .int (nI t))]) hx hb dX12_odds_39 hl (by decide) rfl ?_
    clear hl
    try clear ls
    intro ls hl
    refine lv_lload hx hb dX12_odds_41 (lv_at hl 0 rfl) ?_
    refine lv_lconst (v := 0) hx hb dX12_odds_43 (by decide) ?_
    refine W.lcmp hx hb dX12_odds_44 ?_
    refine lv_if_ge (tgt := 51) hx hb dX12_odds_45 (by decide) (fun _ => ?_) (fun c => absurd (by decide) c)
    refine lv_lload_n hx hb dX12_odds_51 rfl (lv_at hl 1 rfl) ?_
    refine lv_l2f hx hb dX12_odds_52 ?_
    refine lv_fstore (lv' := [(6, .float (FP.l2f (lN (12 ^ t)))), (4, .long 0), (2, .long (lN (12 ^ t))), (0, .ref hm), (1, .int (nI t))]) hx hb dX12_odds_53 hl (by decide) rfl ?_
    clear hl
    try clear ls
    intro ls hl
    refine lv_lload hx hb dX12_odds_55 (lv_at hl 1 rfl) ?_
    refine lv_l2f hx hb dX12_odds_57 ?_
    refine lv_fstore (lv' := [(7, .float (FP.l2f 0)), (6, .float (FP.l2f (lN (12 ^ t)))), (4, .long 0), (2, .long (lN (12 ^ t))), (0, .ref hm), (1, .int (nI t))]) hx hb dX12_odds_58 hl (by decide) rfl ?_
    clear hl
    try clear ls
    intro ls hl
    refine lv_fload hx hb dX12_odds_60 (lv_at hl 0 rfl) ?_
    refine lv_fload hx hb dX12_odds_62 (lv_at hl 1 rfl) ?_
    refine lv_fdiv hx hb dX12_odds_64 (by unfold vf_n32; rw [odds_0 t ht.2]; decide +kernel) ?_
    rw [odds_0 t ht.2]
    refine xi (wr := []) (xS (As := [.float 0]) (rest := []) C (c_Jxf58ca_floatToIntBits_5c35a l D cs ) kX12_231 hP hD [] rfl (by decide +kernel) ⟨Nat.le_of_ble_eq_true rfl, Nat.le_of_ble_eq_true rfl⟩ rfl hl.1 rfl (Nat.le_of_ble_eq_true rfl) dX12_odds_65 ⟨Nat.le_of_ble_eq_true rfl, Nat.le_of_ble_eq_true rfl⟩) hP hD hS hA [] [] rfl rfl (by decide +kernel) (by decide +kernel) ?_
    clear hP hD hS
    try clear locs
    try clear H
    intro r_8 u_9 H locs hw_r_8 hP hD hS
    have hw_r_8 : r_8 = 0 := hw_r_8
    refine W.widen (k := 6) (n := 212482) (Nat.le_of_ble_eq_true rfl) (Nat.le_of_ble_eq_true rfl) ?_
    replace hP : va_P D vwCl [] H := hP
    replace hD : va_D A [] := hD
    subst hw_r_8
    exact xreti C () ((odV_t ht).symm) hP hD hS (Nat.le_of_ble_eq_true rfl) (Nat.le_of_ble_eq_true rfl) rfl dX12_odds_68
  · -- 12 f
    have hn_a := PQ.no hw_r_1 c_3 (by decide)
    refine lv_iconst (v := (-1)) hx hb dX12_odds_15 (by decide) ?_
    exact xreti C () ((odV_n hn_a).symm) (xP_map hP [] rfl) (hD.sub [] (by decide +kernel) rfl) hS (Nat.le_of_ble_eq_true rfl) (Nat.le_of_ble_eq_true rfl) rfl dX12_odds_16
