theorem xOfWF {l : Launch} {y : MethodName} {ws ws' : List Cond} {rm : Room} {Pc : Array Value → State → Prop} {Qc : Array Value → State → Outcome → State → Prop} {mc ms : Nat} {free : Addr → Prop} {cc : ByteArray} {maxL : Nat} {ret : Option FieldType}
    (hy : plainFor y = true) (hw : ws = Cond.code y cc maxL ret :: ws')
    (body : ∀ p e s m args below meth c s₁, BodyLoose p l y (headSpec ws rm) cc maxL ret e s m args below meth c s₁ → c.maxLocals = maxL → Pc args s →
      W p l e (headSpec ws rm).room s m args below meth c s.heap [] 0 0 (MQ below Qc args s mc ms free) (entryFrame m args maxL)) : Met l y ws rm Pc Qc mc ms free := by
  refine MetFree.of_bodySF (code := cc) (maxLocals := maxL) (ret := ret) hy ?_ ?_
  · intro args s m h hn
    obtain ⟨meth, c, h1, h2, h3, h4, h5, h6, -, -⟩ := Cond.code_spec hn (atoms_spec (ws := ws) h _ (by rw [hw]; exact List.mem_cons_self))
    exact ⟨meth, c, h1, h2, h3, h4, h5, h6⟩
  · intro p e s m args below meth c s₁ B hml hP _
    have hh0 : s₁.heap = s.heap := by rw [B.state]; rfl
    obtain ⟨t, a1, o, b1, b2, b3⟩ := body p e s m args below meth c s₁ B hml hP s₁ hh0 (Stand.of_body B)
    exact ⟨t, o, a1, b1, b2, ⟨b3.1, b3.2⟩⟩
theorem xMet.introF {l : Launch} {D : va_G} {cs : Nat → ClassId} {y : MethodName} {cc : ByteArray} {nL : Nat} {ret : Option FieldType} {rm : Room} {av : List Value} {w : va_W} {Qk : xQT} (hy : plainFor y = true) (hn : (lg_sl av).length ≤ nL)
    (body : ∀ (p : Program) (e : Env) (s : State) (m : MethodId) (args : Array Value) (below : List Frame) (meth : Method) (c : Code) (A : Nat → Prop) (ls : Array Slot), xC p rm s m args meth c y cc nL ret D cs A → va_P D vwCl w s.heap → va_D A w → va_S A s.heap s.heap [] → lv_has ls nL (lv_args 0 av) →
      W p l e rm s m args below meth c s.heap [] 0 0 (MQ below (Qk A) args s rm.cells rm.slots A) (F0 m 0 ls [])) : xMet l D cs y cc nL ret rm av w Qk := by
  intro sz
  refine xOfWF (cc := cc) (maxL := nL) (ret := ret) hy rfl ?_
  intro p e s m args below meth c s₁ B hml hv
  obtain ⟨rfl, hsz, hP, hK, hD0⟩ := hv
  have hts := atoms_spec (ws := xws y cc nL ret) B.pre
  have hown : s.vm.findClass y.cls = some m.cls := findClass_of_methodNamed B.named
  have hin : meth.name = y.name := (name_of_methodNamed B.named B.method).1
  subst hsz
  have hl := lv_entry av (n := nL) hn
  rw [lg_entry_eq]
  exact body p e s m av.toArray below meth c (va_A w s.heap.size) _ ⟨B.exec, B.bytes, hml, hown, fun w h => hts w (List.mem_cons_of_mem _ h), B.returns, B.notSynchronized, hin, hK, fun q h => Or.inr h⟩ hP hD0.self va_S.rf hl


theorem wm_nz {n k t : Nat} (hn : 2 ≤ n ∧ n ≤ 8) (hk : 1 ≤ k ∧ k < n) (ht : t ≤ 12) : wmN n k t ≠ 0 := by
  have h : ∀ n, n ≤ 8 → 2 ≤ n → ∀ k, k < n → 1 ≤ k → ∀ t, t ≤ 12 → wmN n k t ≠ 0 := by decide +kernel
  exact h n hn.2 hn.1 k hk.2 hk.1 t ht

set_option maxHeartbeats 4000000 in
set_option maxRecDepth 100000 in
theorem c_Jxf58ca_isNaN_12338 (l : Launch) (D : va_G) (cs : Nat → ClassId) (x : UInt32) : xMet l D cs yJxf58ca_isNaN_12338 cJxf58ca_isNaN_12338 1 (some .boolean) ({ frames := 0, cells := 0, slots := 0, locals := 0 } : Room) [.float x] [] (xQi D (fun (r : Int32) (_u : Unit) => (r = nI 0 ∨ r = nI 1)) (fun (_u : Unit) => [])) := by
  refine xMet.introF (by decide +kernel) (Nat.le_of_ble_eq_true rfl) ?_
  intro p e s m args below meth c A ls C hP hD hS hl
  have hx := C.1
  have hb := C.2.1
  have hz := C.2.2.2.2.1
  have hown := C.2.2.2.1
  have hA := C.2.2.2.2.2.2.2.2.2
  have hAO := C.2.2.2.2.2.2.2.2.1.2.2
  replace hl : lv_has ls 1 [(0, .float x)] := hl
  obtain ⟨H, hH⟩ : ∃ H, H = s.heap := ⟨_, rfl⟩
  replace hP : va_P D vwCl [] H := by rw [hH]; exact hP
  replace hS : va_S A s.heap H [] := by rw [hH]; exact hS
  obtain ⟨locs, hlocs⟩ : ∃ z : List Loc, z = [] := ⟨_, rfl⟩
  rw [← hlocs] at hS
  suffices hW : W p l e ({ frames := 0, cells := 0, slots := 0, locals := 0 } : Room) s m args below meth c H locs 0 0 (MQ below ((xQi D (fun (r : Int32) (_u : Unit) => (r = nI 0 ∨ r = nI 1)) (fun (_u : Unit) => [])) A) args s 0 0 A) (F0 m 0 ls []) by rw [hlocs, hH] at hW; exact hW
  clear hH hlocs
  refine lv_fload_n hx hb dJxf58ca_isNaN_12338_0 rfl (lv_at hl 0 rfl) ?_
  refine lv_fload_n hx hb dJxf58ca_isNaN_12338_1 rfl (lv_at hl 0 rfl) ?_
  refine lv_fcmp hx hb dJxf58ca_isNaN_12338_2 ?_
  refine lv_if_eq (tgt := 10) hx hb dJxf58ca_isNaN_12338_3 (by decide) (fun c_1 => ?_) (fun c_1 => ?_)
  · -- 3 t
    refine lv_iconst (v := nI 0) hx hb dJxf58ca_isNaN_12338_10 (by decide) ?_
    exact xreti C () (by decide) hP hD hS (Nat.le_of_ble_eq_true rfl) (Nat.le_of_ble_eq_true rfl) (by decide) dJxf58ca_isNaN_12338_11
  · -- 3 f
    refine lv_iconst (v := nI 1) hx hb dJxf58ca_isNaN_12338_6 (by decide) ?_
    refine lv_goto (tgt := 11) hx hb dJxf58ca_isNaN_12338_7 (by decide) ?_
    exact xreti C () (by decide) hP hD hS (Nat.le_of_ble_eq_true rfl) (Nat.le_of_ble_eq_true rfl) (by decide) dJxf58ca_isNaN_12338_11

set_option maxHeartbeats 4000000 in
set_option maxRecDepth 100000 in
theorem c_Jxf58ca_floatToIntBits_5c35a (l : Launch) (D : va_G) (cs : Nat → ClassId) (x : UInt32) : xMet l D cs yJxf58ca_floatToIntBits_5c35a cJxf58ca_floatToIntBits_5c35a 1 (some .int) ({ frames := 1, cells := 0, slots := 0, locals := 23 } : Room) [.float x] [] (xQi D (fun (r : Int32) (_u : Unit) => True) (fun (_u : Unit) => [])) := by
  refine xMet.introF (by decide +kernel) (Nat.le_of_ble_eq_true rfl) ?_
  intro p e s m args below meth c A ls C hP hD hS hl
  have hx := C.1
  have hb := C.2.1
  have hz := C.2.2.2.2.1
  have hown := C.2.2.2.1
  have hA := C.2.2.2.2.2.2.2.2.2
  have hAO := C.2.2.2.2.2.2.2.2.1.2.2
  replace hl : lv_has ls 1 [(0, .float x)] := hl
  obtain ⟨H, hH⟩ : ∃ H, H = s.heap := ⟨_, rfl⟩
  replace hP : va_P D vwCl [] H := by rw [hH]; exact hP
  replace hS : va_S A s.heap H [] := by rw [hH]; exact hS
  obtain ⟨locs, hlocs⟩ : ∃ z : List Loc, z = [] := ⟨_, rfl⟩
  rw [← hlocs] at hS
  suffices hW : W p l e ({ frames := 1, cells := 0, slots := 0, locals := 23 } : Room) s m args below meth c H locs 0 0 (MQ below ((xQi D (fun (r : Int32) (_u : Unit) => True) (fun (_u : Unit) => [])) A) args s 0 0 A) (F0 m 0 ls []) by rw [hlocs, hH] at hW; exact hW
  clear hH hlocs
  refine lv_fload_n hx hb dJxf58ca_floatToIntBits_5c35a_0 rfl (lv_at hl 0 rfl) ?_
  refine xi (wr := []) (xS (As := [.float x]) (rest := []) C (c_Jxf58ca_isNaN_12338 l D cs x) kJxf58ca_59 hP hD [] rfl (by decide +kernel) ⟨Nat.le_of_ble_eq_true rfl, Nat.le_of_ble_eq_true rfl⟩ rfl hl.1 rfl (Nat.le_of_ble_eq_true rfl) dJxf58ca_floatToIntBits_5c35a_1 ⟨Nat.le_of_ble_eq_true rfl, Nat.le_of_ble_eq_true rfl⟩) hP hD hS hA [] [] rfl rfl (by decide +kernel) (by decide +kernel) ?_
  clear hP hD hS
  try clear locs
  try clear H
  intro r_1 u_2 H locs hw_r_1 hP hD hS
  have hw_r_1 : (r_1 = nI 0 ∨ r_1 = nI 1) := hw_r_1
  refine W.widen (k := 0) (n := 0) (Nat.le_of_ble_eq_true rfl) (Nat.le_of_ble_eq_true rfl) ?_
  replace hP : va_P D vwCl [] H := hP
  replace hD : va_D A [] := hD
  refine lv_if_ne (tgt := 12) hx hb dJxf58ca_floatToIntBits_5c35a_4 (by decide) (fun c_3 => ?_) (fun c_3 => ?_)
  · -- 4 t
    refine lv_ldc (v := nI 2143289344) hx hb hown (hz _ zw7_34) dJxf58ca_floatToIntBits_5c35a_12 ?_
    exact xreti C () trivial hP hD hS (Nat.le_of_ble_eq_true rfl) (Nat.le_of_ble_eq_true rfl) rfl dJxf58ca_floatToIntBits_5c35a_14
  · -- 4 f
    refine lv_fload_n hx hb dJxf58ca_floatToIntBits_5c35a_7 rfl (lv_at hl 0 rfl) ?_
    refine vn_f2i hx hb (C.2.2.1.trans hl.1.symm) hown (hz _ zw7_31) (hz _ zw7_33) (hz _ zw7_32) (hz _ zw1_19) (Nat.le_of_ble_eq_true rfl) (Nat.le_of_ble_eq_true rfl) dJxf58ca_floatToIntBits_5c35a_8 ?_
    exact xreti C () trivial hP hD hS (Nat.le_of_ble_eq_true rfl) (Nat.le_of_ble_eq_true rfl) rfl dJxf58ca_floatToIntBits_5c35a_11

set_option maxHeartbeats 4000000 in
set_option maxRecDepth 100000 in
theorem c_X12_odds_n (l : Launch) (D : va_G) (cs : Nat → ClassId) (hm ms mkp mtr mas mso mon mot man mst msm mtb mti mfr mbn mbs mde maa mab mba mbb : Nat) (n k al be km en : Nat) (ea pr nq po th xd sF sN sS ig : Int32) (xa xb : Int64) (f : Nat → Int32) (tf : Nat → Int32) (fst ftb fti : Nat → Option Nat) (smf : Nat → Int32) (x : Int32) (hn : 2 ≤ n ∧ n ≤ 8) (hs : colP f) (hn0 : fst 0 = none) (hn1 : fst 1 = none) (hkn : 1 ≤ k ∧ k < n) (hre : mreP n k x) : xMet l D cs yX12_odds cX12_odds 8 (some .int) ({ frames := 6, cells := 6, slots := 212482, locals := 148 } : Room) [.ref hm, .int x] [(hm, .inr (12, [.ref ms, .ref mkp, .int (nI km), .ref mtr, .int (nI n), .int (nI k), .int (nI al), .int (nI be), .int ea, .int pr, .ref mas, .int nq, .int po, .int (nI en), .ref mso, .ref mon, .ref mot, .ref man, .int th, .int xd, .ref mst, .ref msm, .ref mtb, .ref mti, .ref mfr, .ref mbn, .ref mbs, .ref mde, .int sF, .int sN, .int sS, .int ig, .long xa, .long xb, .ref maa, .ref mab, .ref mba, .ref mbb])), (ms, .inl (cs 0, 288, .inl f)), (mtr, .inl (cs 0, 288, .inl tf)), (mst, .inl (cs 5, 2, .inr (.inr (.inr (.inr fst))))), (mtb, .inl (cs 5, 2, .inr (.inr (.inr (.inr ftb))))), (mti, .inl (cs 6, 2, .inr (.inr (.inr (.inr fti))))), (msm, .inl (cs 0, 2, .inl smf))] (xQi D (fun (r : Int32) (u : Nat × Nat × Nat × Nat × Nat × Nat × (Nat → Option Nat) × (Nat → Option Nat) × (Nat → Option Nat) × (Nat → Int32) × (Nat → Int32) × (Nat → Int32) × (Nat → Int32) × (Nat → Int32) × (Nat → Int32) × (Nat → Int32) × (Nat → Int64) × (Nat → Int64)) => match u with | (st0, tb0, ti0, st1, tb1, ti1, fsz, ftz, fiz, fz, tz, s0z, t0z, s1z, t1z, smz, i0z, i1z) => (∀ j, j < 288 → fz j = f j) ∧ fsz 0 = some st0 ∧ fsz 1 = some st1 ∧ ftz 0 = some tb0 ∧ ftz 1 = some tb1 ∧ fiz 0 = some ti0 ∧ fiz 1 = some ti1) (fun (u : Nat × Nat × Nat × Nat × Nat × Nat × (Nat → Option Nat) × (Nat → Option Nat) × (Nat → Option Nat) × (Nat → Int32) × (Nat → Int32) × (Nat → Int32) × (Nat → Int32) × (Nat → Int32) × (Nat → Int32) × (Nat → Int32) × (Nat → Int64) × (Nat → Int64)) => match u with | (st0, tb0, ti0, st1, tb1, ti1, fsz, ftz, fiz, fz, tz, s0z, t0z, s1z, t1z, smz, i0z, i1z) => [(hm, .inr (12, [.ref ms, .ref mkp, .int (nI km), .ref mtr, .int (nI n), .int (nI k), .int (nI al), .int (nI be), .int ea, .int pr, .ref mas, .int nq, .int po, .int (nI en), .ref mso, .ref mon, .ref mot, .ref man, .int (nI 0), .int xd, .ref mst, .ref msm, .ref mtb, .ref mti, .ref mfr, .ref mbn, .ref mbs, .ref mde, .int sF, .int sN, .int sS, .int ig, .long xa, .long xb, .ref maa, .ref mab, .ref mba, .ref mbb])), (ms, .inl (cs 0, 288, .inl fz)), (mtr, .inl (cs 0, 288, .inl tz)), (mst, .inl (cs 5, 2, .inr (.inr (.inr (.inr fsz))))), (st0, .inl (cs 0, 96048, .inl s0z)), (st1, .inl (cs 0, 96048, .inl s1z)), (mtb, .inl (cs 5, 2, .inr (.inr (.inr (.inr ftz))))), (tb0, .inl (cs 0, 8192, .inl t0z)), (tb1, .inl (cs 0, 8192, .inl t1z)), (mti, .inl (cs 6, 2, .inr (.inr (.inr (.inr fiz))))), (ti0, .inl (cs 1, 2001, .inr (.inl i0z))), (ti1, .inl (cs 1, 2001, .inr (.inl i1z))), (msm, .inl (cs 0, 2, .inl smz))])) := by
  refine xMet.intro (by decide) (Nat.le_of_ble_eq_true rfl) ?_
  intro p e s m args below meth c A ls C hP hD hS hl
  have hx := C.1
  have hb := C.2.1
  have hz := C.2.2.2.2.1
  have hown := C.2.2.2.1
  have hA := C.2.2.2.2.2.2.2.2.2
  have hAO := C.2.2.2.2.2.2.2.2.1.2.2
  replace hl : lv_has ls 8 [(0, .ref hm), (1, .int x)] := hl
  obtain ⟨H, hH⟩ : ∃ H, H = s.heap := ⟨_, rfl⟩
  replace hP : va_P D vwCl [(hm, .inr (12, [.ref ms, .ref mkp, .int (nI km), .ref mtr, .int (nI n), .int (nI k), .int (nI al), .int (nI be), .int ea, .int pr, .ref mas, .int nq, .int po, .int (nI en), .ref mso, .ref mon, .ref mot, .ref man, .int th, .int xd, .ref mst, .ref msm, .ref mtb, .ref mti, .ref mfr, .ref mbn, .ref mbs, .ref mde, .int sF, .int sN, .int sS, .int ig, .long xa, .long xb, .ref maa, .ref mab, .ref mba, .ref mbb])), (ms, .inl (cs 0, 288, .inl f)), (mtr, .inl (cs 0, 288, .inl tf)), (mst, .inl (cs 5, 2, .inr (.inr (.inr (.inr fst))))), (mtb, .inl (cs 5, 2, .inr (.inr (.inr (.inr ftb))))), (mti, .inl (cs 6, 2, .inr (.inr (.inr (.inr fti))))), (msm, .inl (cs 0, 2, .inl smf))] H := by rw [hH]; exact hP
  replace hS : va_S A s.heap H [] := by rw [hH]; exact hS
  obtain ⟨locs, hlocs⟩ : ∃ z : List Loc, z = [] := ⟨_, rfl⟩
  rw [← hlocs] at hS
  suffices hW : W p l e ({ frames := 6, cells := 6, slots := 212482, locals := 148 } : Room) s m args below meth c H locs 0 0 (MQ below ((xQi D (fun (r : Int32) (u : Nat × Nat × Nat × Nat × Nat × Nat × (Nat → Option Nat) × (Nat → Option Nat) × (Nat → Option Nat) × (Nat → Int32) × (Nat → Int32) × (Nat → Int32) × (Nat → Int32) × (Nat → Int32) × (Nat → Int32) × (Nat → Int32) × (Nat → Int64) × (Nat → Int64)) => match u with | (st0, tb0, ti0, st1, tb1, ti1, fsz, ftz, fiz, fz, tz, s0z, t0z, s1z, t1z, smz, i0z, i1z) => (∀ j, j < 288 → fz j = f j) ∧ fsz 0 = some st0 ∧ fsz 1 = some st1 ∧ ftz 0 = some tb0 ∧ ftz 1 = some tb1 ∧ fiz 0 = some ti0 ∧ fiz 1 = some ti1) (fun (u : Nat × Nat × Nat × Nat × Nat × Nat × (Nat → Option Nat) × (Nat → Option Nat) × (Nat → Option Nat) × (Nat → Int32) × (Nat → Int32) × (Nat → Int32) × (Nat → Int32) × (Nat → Int32) × (Nat → Int32) × (Nat → Int32) × (Nat → Int64) × (Nat → Int64)) => match u with | (st0, tb0, ti0, st1, tb1, ti1, fsz, ftz, fiz, fz, tz, s0z, t0z, s1z, t1z, smz, i0z, i1z) => [(hm, .inr (12, [.ref ms, .ref mkp, .int (nI km), .ref mtr, .int (nI n), .int (nI k), .int (nI al), .int (nI be), .int ea, .int pr, .ref mas, .int nq, .int po, .int (nI en), .ref mso, .ref mon, .ref mot, .ref man, .int (nI 0), .int xd, .ref mst, .ref msm, .ref mtb, .ref mti, .ref mfr, .ref mbn, .ref mbs, .ref mde, .int sF, .int sN, .int sS, .int ig, .long xa, .long xb, .ref maa, .ref mab, .ref mba, .ref mbb])), (ms, .inl (cs 0, 288, .inl fz)), (mtr, .inl (cs 0, 288, .inl tz)), (mst, .inl (cs 5, 2, .inr (.inr (.inr (.inr fsz))))), (st0, .inl (cs 0, 96048, .inl s0z)), (st1, .inl (cs 0, 96048, .inl s1z)), (mtb, .inl (cs 5, 2, .inr (.inr (.inr (.inr ftz))))), (tb0, .inl (cs 0, 8192, .inl t0z)), (tb1, .inl (cs 0, 8192, .inl t1z)), (mti, .inl (cs 6, 2, .inr (.inr (.inr (.inr fiz))))), (ti0, .inl (cs 1, 2001, .inr (.inl i0z))), (ti1, .inl (cs 1, 2001, .inr (.inl i1z))), (msm, .inl (cs 0, 2, .inl smz))])) A) args s 6 212482 A) (F0 m 0 ls []) by rw [hlocs, hH] at hW; exact hW
  clear hH hlocs
  refine lv_aload_n hx hb dX12_odds_0 rfl (lv_at hl 0 rfl) ?_
  refine lv_iconst (v := nI 0) hx hb dX12_odds_1 (by decide) ?_
  refine xput C hP hD hS 0 rfl rfl zuX12 tyX12 tyX12_ok nmX12 18 (by decide) zw5_231 rfl rfl rfl (Nat.le_of_ble_eq_true rfl) dX12_odds_2 ?_
  clear hP hD hS
  try clear locs
  try clear H
  intro H locs hP hD hS
  replace hP : va_P D vwCl [(hm, .inr (12, [.ref ms, .ref mkp, .int (nI km), .ref mtr, .int (nI n), .int (nI k), .int (nI al), .int (nI be), .int ea, .int pr, .ref mas, .int nq, .int po, .int (nI en), .ref mso, .ref mon, .ref mot, .ref man, .int (nI 0), .int xd, .ref mst, .ref msm, .ref mtb, .ref mti, .ref mfr, .ref mbn, .ref mbs, .ref mde, .int sF, .int sN, .int sS, .int ig, .long xa, .long xb, .ref maa, .ref mab, .ref mba, .ref mbb])), (ms, .inl (cs 0, 288, .inl f)), (mtr, .inl (cs 0, 288, .inl tf)), (mst, .inl (cs 5, 2, .inr (.inr (.inr (.inr fst))))), (mtb, .inl (cs 5, 2, .inr (.inr (.inr (.inr ftb))))), (mti, .inl (cs 6, 2, .inr (.inr (.inr (.inr fti))))), (msm, .inl (cs 0, 2, .inl smf))] H := hP
  replace hD : va_D A [(hm, .inr (12, [.ref ms, .ref mkp, .int (nI km), .ref mtr, .int (nI n), .int (nI k), .int (nI al), .int (nI be), .int ea, .int pr, .ref mas, .int nq, .int po, .int (nI en), .ref mso, .ref mon, .ref mot, .ref man, .int (nI 0), .int xd, .ref mst, .ref msm, .ref mtb, .ref mti, .ref mfr, .ref mbn, .ref mbs, .ref mde, .int sF, .int sN, .int sS, .int ig, .long xa, .long xb, .ref maa, .ref mab, .ref mba, .ref mbb])), (ms, .inl (cs 0, 288, .inl f)), (mtr, .inl (cs 0, 288, .inl tf)), (mst, .inl (cs 5, 2, .inr (.inr (.inr (.inr fst))))), (mtb, .inl (cs 5, 2, .inr (.inr (.inr (.inr ftb))))), (mti, .inl (cs 6, 2, .inr (.inr (.inr (.inr fti))))), (msm, .inl (cs 0, 2, .inl smf))] := hD
  refine lv_iload_n hx hb dX12_odds_5 rfl (lv_at hl 1 rfl) ?_
  refine lv_iconst (v := nI 1) hx hb dX12_odds_6 (by decide) ?_
  refine lv_bipush (v := nI 12) hx hb dX12_odds_7 (by decide) ?_
  refine xi (wr := [(hm, .inr (12, [.ref ms, .ref mkp, .int (nI km), .ref mtr, .int (nI n), .int (nI k), .int (nI al), .int (nI be), .int ea, .int pr, .ref mas, .int nq, .int po, .int (nI en), .ref mso, .ref mon, .ref mot, .ref man, .int (nI 0), .int xd, .ref mst, .ref msm, .ref mtb, .ref mti, .ref mfr, .ref mbn, .ref mbs, .ref mde, .int sF, .int sN, .int sS, .int ig, .long xa, .long xb, .ref maa, .ref mab, .ref mba, .ref mbb])), (ms, .inl (cs 0, 288, .inl f)), (mtr, .inl (cs 0, 288, .inl tf)), (mst, .inl (cs 5, 2, .inr (.inr (.inr (.inr fst))))), (mtb, .inl (cs 5, 2, .inr (.inr (.inr (.inr ftb))))), (mti, .inl (cs 6, 2, .inr (.inr (.inr (.inr fti))))), (msm, .inl (cs 0, 2, .inl smf))]) (xS (As := [.int x, .int (nI 1), .int (nI 12)]) (rest := []) C (c_X12_within l D cs x (nI 1) (nI 12)) kX12_116 hP hD [] rfl (by decide +kernel) ⟨Nat.le_of_ble_eq_true rfl, Nat.le_of_ble_eq_true rfl⟩ rfl hl.1 rfl (Nat.le_of_ble_eq_true rfl) dX12_odds_9 ⟨Nat.le_of_ble_eq_true rfl, Nat.le_of_ble_eq_true rfl⟩) hP hD hS hA [] [0, 1, 2, 3, 4, 5, 6] rfl rfl (by decide +kernel) (by decide +kernel) ?_
  clear hP hD hS
  try clear locs
  try clear H
  intro r_1 u_2 H locs hw_r_1 hP hD hS
  have hw_r_1 : PQ (¬ x < (nI 1) ∧ x ≤ (nI 12)) r_1 (nI 1) (nI 0) := hw_r_1
  refine W.widen (k := 0) (n := 0) (Nat.le_of_ble_eq_true rfl) (Nat.le_of_ble_eq_true rfl) ?_
  replace hP : va_P D vwCl [(hm, .inr (12, [.ref ms, .ref mkp, .int (nI km), .ref mtr, .int (nI n), .int (nI k), .int (nI al), .int (nI be), .int ea, .int pr, .ref mas, .int nq, .int po, .int (nI en), .ref mso, .ref mon, .ref mot, .ref man, .int (nI 0), .int xd, .ref mst, .ref msm, .ref mtb, .ref mti, .ref mfr, .ref mbn, .ref mbs, .ref mde, .int sF, .int sN, .int sS, .int ig, .long xa, .long xb, .ref maa, .ref mab, .ref mba, .ref mbb])), (ms, .inl (cs 0, 288, .inl f)), (mtr, .inl (cs 0, 288, .inl tf)), (mst, .inl (cs 5, 2, .inr (.inr (.inr (.inr fst))))), (mtb, .inl (cs 5, 2, .inr (.inr (.inr (.inr ftb))))), (mti, .inl (cs 6, 2, .inr (.inr (.inr (.inr fti))))), (msm, .inl (cs 0, 2, .inl smf))] H := hP
  replace hD : va_D A [(hm, .inr (12, [.ref ms, .ref mkp, .int (nI km), .ref mtr, .int (nI n), .int (nI k), .int (nI al), .int (nI be), .int ea, .int pr, .ref mas, .int nq, .int po, .int (nI en), .ref mso, .ref mon, .ref mot, .ref man, .int (nI 0), .int xd, .ref mst, .ref msm, .ref mtb, .ref mti, .ref mfr, .ref mbn, .ref mbs, .ref mde, .int sF, .int sN, .int sS, .int ig, .long xa, .long xb, .ref maa, .ref mab, .ref mba, .ref mbb])), (ms, .inl (cs 0, 288, .inl f)), (mtr, .inl (cs 0, 288, .inl tf)), (mst, .inl (cs 5, 2, .inr (.inr (.inr (.inr fst))))), (mtb, .inl (cs 5, 2, .inr (.inr (.inr (.inr ftb))))), (mti, .inl (cs 6, 2, .inr (.inr (.inr (.inr fti))))), (msm, .inl (cs 0, 2, .inl smf))] := hD
  refine lv_if_ne (tgt := 17) hx hb dX12_odds_12 (by decide) (fun c_3 => ?_) (fun c_3 => ?_)
  · -- 12 t
    have htold : mtoldP x := PQ.yes hw_r_1 c_3
    obtain ⟨t, h_t, rfl⟩ := htold.nat
    replace hP : va_P D vwCl [(hm, .inr (12, [.ref ms, .ref mkp, .int (nI km), .ref mtr, .int (nI n), .int (nI k), .int (nI al), .int (nI be), .int ea, .int pr, .ref mas, .int nq, .int po, .int (nI en), .ref mso, .ref mon, .ref mot, .ref man, .int (nI 0), .int xd, .ref mst, .ref msm, .ref mtb, .ref mti, .ref mfr, .ref mbn, .ref mbs, .ref mde, .int sF, .int sN, .int sS, .int ig, .long xa, .long xb, .ref maa, .ref mab, .ref mba, .ref mbb])), (ms, .inl (cs 0, 288, .inl f)), (mtr, .inl (cs 0, 288, .inl tf)), (mst, .inl (cs 5, 2, .inr (.inr (.inr (.inr fst))))), (mtb, .inl (cs 5, 2, .inr (.inr (.inr (.inr ftb))))), (mti, .inl (cs 6, 2, .inr (.inr (.inr (.inr fti))))), (msm, .inl (cs 0, 2, .inl smf))] H := hP
    replace hD : va_D A [(hm, .inr (12, [.ref ms, .ref mkp, .int (nI km), .ref mtr, .int (nI n), .int (nI k), .int (nI al), .int (nI be), .int ea, .int pr, .ref mas, .int nq, .int po, .int (nI en), .ref mso, .ref mon, .ref mot, .ref man, .int (nI 0), .int xd, .ref mst, .ref msm, .ref mtb, .ref mti, .ref mfr, .ref mbn, .ref mbs, .ref mde, .int sF, .int sN, .int sS, .int ig, .long xa, .long xb, .ref maa, .ref mab, .ref mba, .ref mbb])), (ms, .inl (cs 0, 288, .inl f)), (mtr, .inl (cs 0, 288, .inl tf)), (mst, .inl (cs 5, 2, .inr (.inr (.inr (.inr fst))))), (mtb, .inl (cs 5, 2, .inr (.inr (.inr (.inr ftb))))), (mti, .inl (cs 6, 2, .inr (.inr (.inr (.inr fti))))), (msm, .inl (cs 0, 2, .inl smf))] := hD
    refine lv_aload_n hx hb dX12_odds_17 rfl (lv_at hl 0 rfl) ?_
    refine lv_iload_n hx hb dX12_odds_18 rfl (lv_at hl 1 rfl) ?_
    refine xl (wr := [(ms, .inl (cs 0, 288, .inl f)), (mtr, .inl (cs 0, 288, .inl tf)), (mst, .inl (cs 5, 2, .inr (.inr (.inr (.inr fst))))), (mtb, .inl (cs 5, 2, .inr (.inr (.inr (.inr ftb))))), (mti, .inl (cs 6, 2, .inr (.inr (.inr (.inr fti))))), (msm, .inl (cs 0, 2, .inl smf))]) (xV (As := [.int (nI t)]) (rest := []) C (c_X12_waysOf l D cs hm ms mkp mtr mas mso mon mot man mst msm mtb mti mfr mbn mbs mde maa mab mba mbb n k al be km en ea pr nq po (nI 0) xd sF sN sS ig xa xb t hn hkn h_t) kX12_221 hP hD [0] rfl (by decide +kernel) 0 rfl rfl rfl ⟨Nat.le_of_ble_eq_true rfl, Nat.le_of_ble_eq_true rfl⟩ rfl hl.1 rfl (Nat.le_of_ble_eq_true rfl) dX12_odds_19 ⟨Nat.le_of_ble_eq_true rfl, Nat.le_of_ble_eq_true rfl⟩) hP hD hS hA [0] [1, 2, 3, 4, 5, 6] rfl rfl (by decide +kernel) (by decide +kernel) ?_
    clear hP hD hS
    try clear locs
    try clear H
    intro r_4 u_5 H locs hw_r_4 hP hD hS
    have hw_r_4 : r_4 = wmN n k t := hw_r_4
    refine W.widen (k := 0) (n := 0) (Nat.le_of_ble_eq_true rfl) (Nat.le_of_ble_eq_true rfl) ?_
    replace hP : va_P D vwCl [(ms, .inl (cs 0, 288, .inl f)), (mtr, .inl (cs 0, 288, .inl tf)), (mst, .inl (cs 5, 2, .inr (.inr (.inr (.inr fst))))), (mtb, .inl (cs 5, 2, .inr (.inr (.inr (.inr ftb))))), (mti, .inl (cs 6, 2, .inr (.inr (.inr (.inr fti))))), (msm, .inl (cs 0, 2, .inl smf)), (hm, .inr (12, [.ref ms, .ref mkp, .int (nI km), .ref mtr, .int (nI n), .int (nI k), .int (nI al), .int (nI be), .int ea, .int pr, .ref mas, .int nq, .int po, .int (nI en), .ref mso, .ref mon, .ref mot, .ref man, .int (nI 0), .int xd, .ref mst, .ref msm, .ref mtb, .ref mti, .ref mfr, .ref mbn, .ref mbs, .ref mde, .int sF, .int sN, .int sS, .int ig, .long xa, .long xb, .ref maa, .ref mab, .ref mba, .ref mbb]))] H := hP
    replace hD : va_D A [(ms, .inl (cs 0, 288, .inl f)), (mtr, .inl (cs 0, 288, .inl tf)), (mst, .inl (cs 5, 2, .inr (.inr (.inr (.inr fst))))), (mtb, .inl (cs 5, 2, .inr (.inr (.inr (.inr ftb))))), (mti, .inl (cs 6, 2, .inr (.inr (.inr (.inr fti))))), (msm, .inl (cs 0, 2, .inl smf)), (hm, .inr (12, [.ref ms, .ref mkp, .int (nI km), .ref mtr, .int (nI n), .int (nI k), .int (nI al), .int (nI be), .int ea, .int pr, .ref mas, .int nq, .int po, .int (nI en), .ref mso, .ref mon, .ref mot, .ref man, .int (nI 0), .int xd, .ref mst, .ref msm, .ref mtb, .ref mti, .ref mfr, .ref mbn, .ref mbs, .ref mde, .int sF, .int sN, .int sS, .int ig, .long xa, .long xb, .ref maa, .ref mab, .ref mba, .ref mbb]))] := hD
    subst hw_r_4
    replace hP : va_P D vwCl [(ms, .inl (cs 0, 288, .inl f)), (mtr, .inl (cs 0, 288, .inl tf)), (mst, .inl (cs 5, 2, .inr (.inr (.inr (.inr fst))))), (mtb, .inl (cs 5, 2, .inr (.inr (.inr (.inr ftb))))), (mti, .inl (cs 6, 2, .inr (.inr (.inr (.inr fti))))), (msm, .inl (cs 0, 2, .inl smf)), (hm, .inr (12, [.ref ms, .ref mkp, .int (nI km), .ref mtr, .int (nI n), .int (nI k), .int (nI al), .int (nI be), .int ea, .int pr, .ref mas, .int nq, .int po, .int (nI en), .ref mso, .ref mon, .ref mot, .ref man, .int (nI 0), .int xd, .ref mst, .ref msm, .ref mtb, .ref mti, .ref mfr, .ref mbn, .ref mbs, .ref mde, .int sF, .int sN, .int sS, .int ig, .long xa, .long xb, .ref maa, .ref mab, .ref mba, .ref mbb]))] H := hP
    replace hD : va_D A [(ms, .inl (cs 0, 288, .inl f)), (mtr, .inl (cs 0, 288, .inl tf)), (mst, .inl (cs 5, 2, .inr (.inr (.inr (.inr fst))))), (mtb, .inl (cs 5, 2, .inr (.inr (.inr (.inr ftb))))), (mti, .inl (cs 6, 2, .inr (.inr (.inr (.inr fti))))), (msm, .inl (cs 0, 2, .inl smf)), (hm, .inr (12, [.ref ms, .ref mkp, .int (nI km), .ref mtr, .int (nI n), .int (nI k), .int (nI al), .int (nI be), .int ea, .int pr, .ref mas, .int nq, .int po, .int (nI en), .ref mso, .ref mon, .ref mot, .ref man, .int (nI 0), .int xd, .ref mst, .ref msm, .ref mtb, .ref mti, .ref mfr, .ref mbn, .ref mbs, .ref mde, .int sF, .int sN, .int sS, .int ig, .long xa, .long xb, .ref maa, .ref mab, .ref mba, .ref mbb]))] := hD
    refine lv_lstore_n (lv' := [(2, .long (wmN n k t)), (0, .ref hm), (1, .int (nI t))]) hx hb dX12_odds_22 rfl hl (by decide) rfl ?_
    clear hl
    try clear ls
    intro ls hl
    refine lv_lload_n hx hb dX12_odds_23 rfl (lv_at hl 0 rfl) ?_
    refine lv_lconst (v := 0) hx hb dX12_odds_24 (by decide) ?_
    refine W.lcmp hx hb dX12_odds_25 ?_
    refine lv_if_ge (tgt := 32) hx hb dX12_odds_26 (by decide) (fun c_6 => ?_) (fun c_6 => ?_)
    · -- 26 t
      refine lv_aload_n hx hb dX12_odds_32 rfl (lv_at hl 1 rfl) ?_
      refine lv_iload_n hx hb dX12_odds_33 rfl (lv_at hl 2 rfl) ?_
      refine lv_iconst (v := nI 1) hx hb dX12_odds_34 (by decide) ?_
      refine lv_iconst (v := nI 0) hx hb dX12_odds_35 (by decide) ?_
      refine xl (wr := []) (xV (As := [.int (nI t), .int (nI 1), .int (nI 0)]) (rest := []) C (c_X12_counted_n l D cs hm ms mkp mtr mas mso mon mot man mst msm mtb mti mfr mbn mbs mde maa mab mba mbb n k al be km en ea pr nq po (nI 0) xd sF sN sS ig xa xb f tf fst ftb fti smf t (nI 1) (nI 0) hn hs hn0 hn1 h_t) kX12_227 hP hD [6, 0, 1, 2, 3, 4, 5] rfl (by decide +kernel) 0 rfl rfl rfl ⟨Nat.le_of_ble_eq_true rfl, Nat.le_of_ble_eq_true rfl⟩ rfl hl.1 rfl (Nat.le_of_ble_eq_true rfl) dX12_odds_36 ⟨Nat.le_of_ble_eq_true rfl, Nat.le_of_ble_eq_true rfl⟩) hP hD hS hA [6, 0, 1, 2, 3, 4, 5] [] rfl rfl (by decide +kernel) (by decide +kernel) ?_
      clear hP hD hS
      try clear locs
      try clear H
      intro r_7 u_8 H locs hw_r_7 hP hD hS
      obtain ⟨st0_9, tb0_10, ti0_11, st1_12, tb1_13, ti1_14, fsz_15, ftz_16, fiz_17, fz_18, tz_19, s0z_20, t0z_21, s1z_22, t1z_23, smz_24, i0z_25, i1z_26⟩ := u_8
      have hw_r_7 : (∀ j, j < 288 → fz_18 j = f j) ∧ fsz_15 0 = some st0_9 ∧ fsz_15 1 = some st1_12 ∧ ftz_16 0 = some tb0_10 ∧ ftz_16 1 = some tb1_13 ∧ fiz_17 0 = some ti0_11 ∧ fiz_17 1 = some ti1_14 := hw_r_7
      refine W.widen (k := 6) (n := 212482) (Nat.le_of_ble_eq_true rfl) (Nat.le_of_ble_eq_true rfl) ?_
      replace hP : va_P D vwCl [(hm, .inr (12, [.ref ms, .ref mkp, .int (nI km), .ref mtr, .int (nI n), .int (nI k), .int (nI al), .int (nI be), .int ea, .int pr, .ref mas, .int nq, .int po, .int (nI en), .ref mso, .ref mon, .ref mot, .ref man, .int (nI 0), .int xd, .ref mst, .ref msm, .ref mtb, .ref mti, .ref mfr, .ref mbn, .ref mbs, .ref mde, .int sF, .int sN, .int sS, .int ig, .long xa, .long xb, .ref maa, .ref mab, .ref mba, .ref mbb])), (ms, .inl (cs 0, 288, .inl fz_18)), (mtr, .inl (cs 0, 288, .inl tz_19)), (mst, .inl (cs 5, 2, .inr (.inr (.inr (.inr fsz_15))))), (st0_9, .inl (cs 0, 96048, .inl s0z_20)), (st1_12, .inl (cs 0, 96048, .inl s1z_22)), (mtb, .inl (cs 5, 2, .inr (.inr (.inr (.inr ftz_16))))), (tb0_10, .inl (cs 0, 8192, .inl t0z_21)), (tb1_13, .inl (cs 0, 8192, .inl t1z_23)), (mti, .inl (cs 6, 2, .inr (.inr (.inr (.inr fiz_17))))), (ti0_11, .inl (cs 1, 2001, .inr (.inl i0z_25))), (ti1_14, .inl (cs 1, 2001, .inr (.inl i1z_26))), (msm, .inl (cs 0, 2, .inl smz_24))] H := hP
      replace hD : va_D A [(hm, .inr (12, [.ref ms, .ref mkp, .int (nI km), .ref mtr, .int (nI n), .int (nI k), .int (nI al), .int (nI be), .int ea, .int pr, .ref mas, .int nq, .int po, .int (nI en), .ref mso, .ref mon, .ref mot, .ref man, .int (nI 0), .int xd, .ref mst, .ref msm, .ref mtb, .ref mti, .ref mfr, .ref mbn, .ref mbs, .ref mde, .int sF, .int sN, .int sS, .int ig, .long xa, .long xb, .ref maa, .ref mab, .ref mba, .ref mbb])), (ms, .inl (cs 0, 288, .inl fz_18)), (mtr, .inl (cs 0, 288, .inl tz_19)), (mst, .inl (cs 5, 2, .inr (.inr (.inr (.inr fsz_15))))), (st0_9, .inl (cs 0, 96048, .inl s0z_20)), (st1_12, .inl (cs 0, 96048, .inl s1z_22)), (mtb, .inl (cs 5, 2, .inr (.inr (.inr (.inr ftz_16))))), (tb0_10, .inl (cs 0, 8192, .inl t0z_21)), (tb1_13, .inl (cs 0, 8192, .inl t1z_23)), (mti, .inl (cs 6, 2, .inr (.inr (.inr (.inr fiz_17))))), (ti0_11, .inl (cs 1, 2001, .inr (.inl i0z_25))), (ti1_14, .inl (cs 1, 2001, .inr (.inl i1z_26))), (msm, .inl (cs 0, 2, .inl smz_24))] := hD
      refine lv_lstore (lv' := [(4, .long r_7), (2, .long (wmN n k t)), (0, .ref hm), (1, .int (nI t))]) hx hb dX12_odds_39 hl (by decide) rfl ?_
      clear hl
      try clear ls
      intro ls hl
      refine lv_lload hx hb dX12_odds_41 (lv_at hl 0 rfl) ?_
      refine lv_lconst (v := 0) hx hb dX12_odds_43 (by decide) ?_
      refine W.lcmp hx hb dX12_odds_44 ?_
      refine lv_if_ge (tgt := 51) hx hb dX12_odds_45 (by decide) (fun c_27 => ?_) (fun c_27 => ?_)
      · -- 45 t
        refine lv_lload_n hx hb dX12_odds_51 rfl (lv_at hl 1 rfl) ?_
        refine lv_l2f hx hb dX12_odds_52 ?_
        refine lv_fstore (lv' := [(6, .float (FP.l2f (wmN n k t))), (4, .long r_7), (2, .long (wmN n k t)), (0, .ref hm), (1, .int (nI t))]) hx hb dX12_odds_53 hl (by decide) rfl ?_
        clear hl
        try clear ls
        intro ls hl
        refine lv_lload hx hb dX12_odds_55 (lv_at hl 1 rfl) ?_
        refine lv_l2f hx hb dX12_odds_57 ?_
        refine lv_fstore (lv' := [(7, .float (FP.l2f r_7)), (6, .float (FP.l2f (wmN n k t))), (4, .long r_7), (2, .long (wmN n k t)), (0, .ref hm), (1, .int (nI t))]) hx hb dX12_odds_58 hl (by decide) rfl ?_
        clear hl
        try clear ls
        intro ls hl
        refine lv_fload hx hb dX12_odds_60 (lv_at hl 0 rfl) ?_
        refine lv_fload hx hb dX12_odds_62 (lv_at hl 1 rfl) ?_
        refine lv_fdiv hx hb dX12_odds_64 (fl_div _ (wm_nz hn hkn h_t)) ?_
        refine xi (wr := [(hm, .inr (12, [.ref ms, .ref mkp, .int (nI km), .ref mtr, .int (nI n), .int (nI k), .int (nI al), .int (nI be), .int ea, .int pr, .ref mas, .int nq, .int po, .int (nI en), .ref mso, .ref mon, .ref mot, .ref man, .int (nI 0), .int xd, .ref mst, .ref msm, .ref mtb, .ref mti, .ref mfr, .ref mbn, .ref mbs, .ref mde, .int sF, .int sN, .int sS, .int ig, .long xa, .long xb, .ref maa, .ref mab, .ref mba, .ref mbb])), (ms, .inl (cs 0, 288, .inl fz_18)), (mtr, .inl (cs 0, 288, .inl tz_19)), (mst, .inl (cs 5, 2, .inr (.inr (.inr (.inr fsz_15))))), (st0_9, .inl (cs 0, 96048, .inl s0z_20)), (st1_12, .inl (cs 0, 96048, .inl s1z_22)), (mtb, .inl (cs 5, 2, .inr (.inr (.inr (.inr ftz_16))))), (tb0_10, .inl (cs 0, 8192, .inl t0z_21)), (tb1_13, .inl (cs 0, 8192, .inl t1z_23)), (mti, .inl (cs 6, 2, .inr (.inr (.inr (.inr fiz_17))))), (ti0_11, .inl (cs 1, 2001, .inr (.inl i0z_25))), (ti1_14, .inl (cs 1, 2001, .inr (.inl i1z_26))), (msm, .inl (cs 0, 2, .inl smz_24))]) (xS (As := [.float (FP.fdiv (FP.l2f r_7) (FP.l2f (wmN n k t)))]) (rest := []) C (c_Jxf58ca_floatToIntBits_5c35a l D cs (FP.fdiv (FP.l2f r_7) (FP.l2f (wmN n k t)))) kX12_231 hP hD [] rfl (by decide +kernel) ⟨Nat.le_of_ble_eq_true rfl, Nat.le_of_ble_eq_true rfl⟩ rfl hl.1 rfl (Nat.le_of_ble_eq_true rfl) dX12_odds_65 ⟨Nat.le_of_ble_eq_true rfl, Nat.le_of_ble_eq_true rfl⟩) hP hD hS hA [] [0, 1, 2, 3, 4, 5, 6, 7, 8, 9, 10, 11, 12] rfl rfl (by decide +kernel) (by decide +kernel) ?_
        clear hP hD hS
        try clear locs
        try clear H
        intro r_28 u_29 H locs hw_r_28 hP hD hS
        refine W.widen (k := 6) (n := 212482) (Nat.le_of_ble_eq_true rfl) (Nat.le_of_ble_eq_true rfl) ?_
        replace hP : va_P D vwCl [(hm, .inr (12, [.ref ms, .ref mkp, .int (nI km), .ref mtr, .int (nI n), .int (nI k), .int (nI al), .int (nI be), .int ea, .int pr, .ref mas, .int nq, .int po, .int (nI en), .ref mso, .ref mon, .ref mot, .ref man, .int (nI 0), .int xd, .ref mst, .ref msm, .ref mtb, .ref mti, .ref mfr, .ref mbn, .ref mbs, .ref mde, .int sF, .int sN, .int sS, .int ig, .long xa, .long xb, .ref maa, .ref mab, .ref mba, .ref mbb])), (ms, .inl (cs 0, 288, .inl fz_18)), (mtr, .inl (cs 0, 288, .inl tz_19)), (mst, .inl (cs 5, 2, .inr (.inr (.inr (.inr fsz_15))))), (st0_9, .inl (cs 0, 96048, .inl s0z_20)), (st1_12, .inl (cs 0, 96048, .inl s1z_22)), (mtb, .inl (cs 5, 2, .inr (.inr (.inr (.inr ftz_16))))), (tb0_10, .inl (cs 0, 8192, .inl t0z_21)), (tb1_13, .inl (cs 0, 8192, .inl t1z_23)), (mti, .inl (cs 6, 2, .inr (.inr (.inr (.inr fiz_17))))), (ti0_11, .inl (cs 1, 2001, .inr (.inl i0z_25))), (ti1_14, .inl (cs 1, 2001, .inr (.inl i1z_26))), (msm, .inl (cs 0, 2, .inl smz_24))] H := hP
        replace hD : va_D A [(hm, .inr (12, [.ref ms, .ref mkp, .int (nI km), .ref mtr, .int (nI n), .int (nI k), .int (nI al), .int (nI be), .int ea, .int pr, .ref mas, .int nq, .int po, .int (nI en), .ref mso, .ref mon, .ref mot, .ref man, .int (nI 0), .int xd, .ref mst, .ref msm, .ref mtb, .ref mti, .ref mfr, .ref mbn, .ref mbs, .ref mde, .int sF, .int sN, .int sS, .int ig, .long xa, .long xb, .ref maa, .ref mab, .ref mba, .ref mbb])), (ms, .inl (cs 0, 288, .inl fz_18)), (mtr, .inl (cs 0, 288, .inl tz_19)), (mst, .inl (cs 5, 2, .inr (.inr (.inr (.inr fsz_15))))), (st0_9, .inl (cs 0, 96048, .inl s0z_20)), (st1_12, .inl (cs 0, 96048, .inl s1z_22)), (mtb, .inl (cs 5, 2, .inr (.inr (.inr (.inr ftz_16))))), (tb0_10, .inl (cs 0, 8192, .inl t0z_21)), (tb1_13, .inl (cs 0, 8192, .inl t1z_23)), (mti, .inl (cs 6, 2, .inr (.inr (.inr (.inr fiz_17))))), (ti0_11, .inl (cs 1, 2001, .inr (.inl i0z_25))), (ti1_14, .inl (cs 1, 2001, .inr (.inl i1z_26))), (msm, .inl (cs 0, 2, .inl smz_24))] := hD
        exact xreti C (⟨st0_9, tb0_10, ti0_11, st1_12, tb1_13, ti1_14, fsz_15, ftz_16, fiz_17, fz_18, tz_19, s0z_20, t0z_21, s1z_22, t1z_23, smz_24, i0z_25, i1z_26⟩) hw_r_7 hP hD hS (Nat.le_of_ble_eq_true rfl) (Nat.le_of_ble_eq_true rfl) rfl dX12_odds_68
      · -- 45 f
        refine lv_bipush (v := (-3)) hx hb dX12_odds_48 (by decide) ?_
        exact xreti C (⟨st0_9, tb0_10, ti0_11, st1_12, tb1_13, ti1_14, fsz_15, ftz_16, fiz_17, fz_18, tz_19, s0z_20, t0z_21, s1z_22, t1z_23, smz_24, i0z_25, i1z_26⟩) hw_r_7 hP hD hS (Nat.le_of_ble_eq_true rfl) (Nat.le_of_ble_eq_true rfl) rfl dX12_odds_50
    · -- 26 f
      exact absurd (l_nge c_6) (hre.ne h_t)
  · -- 12 f
    exact absurd hre.1 (PQ.no hw_r_1 c_3 (by decide))

set_option maxHeartbeats 4000000 in
set_option maxRecDepth 100000 in
theorem c_X12_odds_a (l : Launch) (D : va_G) (cs : Nat → ClassId) (hm ms mkp mtr mas mso mon mot man mst msm mtb mti mfr mbn mbs mde maa mab mba mbb : Nat) (n k al be km en : Nat) (ea pr nq po th xd sF sN sS ig : Int32) (xa xb : Int64) (f : Nat → Int32) (tf : Nat → Int32) (st0 tb0 ti0 st1 tb1 ti1 : Nat) (fst ftb fti : Nat → Option Nat) (s0 t0 s1 t1 smf : Nat → Int32) (i0 i1 : Nat → Int64) (x : Int32) (hn : 2 ≤ n ∧ n ≤ 8) (hs : colP f) (hfs0 : fst 0 = some st0) (hfs1 : fst 1 = some st1) (hft0 : ftb 0 = some tb0) (hft1 : ftb 1 = some tb1) (hfi0 : fti 0 = some ti0) (hfi1 : fti 1 = some ti1) (hkn : 1 ≤ k ∧ k < n) (hre : mreP n k x) : xMet l D cs yX12_odds cX12_odds 8 (some .int) ({ frames := 6, cells := 0, slots := 0, locals := 148 } : Room) [.ref hm, .int x] [(hm, .inr (12, [.ref ms, .ref mkp, .int (nI km), .ref mtr, .int (nI n), .int (nI k), .int (nI al), .int (nI be), .int ea, .int pr, .ref mas, .int nq, .int po, .int (nI en), .ref mso, .ref mon, .ref mot, .ref man, .int th, .int xd, .ref mst, .ref msm, .ref mtb, .ref mti, .ref mfr, .ref mbn, .ref mbs, .ref mde, .int sF, .int sN, .int sS, .int ig, .long xa, .long xb, .ref maa, .ref mab, .ref mba, .ref mbb])), (ms, .inl (cs 0, 288, .inl f)), (mtr, .inl (cs 0, 288, .inl tf)), (mst, .inl (cs 5, 2, .inr (.inr (.inr (.inr fst))))), (st0, .inl (cs 0, 96048, .inl s0)), (st1, .inl (cs 0, 96048, .inl s1)), (mtb, .inl (cs 5, 2, .inr (.inr (.inr (.inr ftb))))), (tb0, .inl (cs 0, 8192, .inl t0)), (tb1, .inl (cs 0, 8192, .inl t1)), (mti, .inl (cs 6, 2, .inr (.inr (.inr (.inr fti))))), (ti0, .inl (cs 1, 2001, .inr (.inl i0))), (ti1, .inl (cs 1, 2001, .inr (.inl i1))), (msm, .inl (cs 0, 2, .inl smf))] (xQi D (fun (r : Int32) (u : Nat × Nat × Nat × Nat × Nat × Nat × (Nat → Option Nat) × (Nat → Option Nat) × (Nat → Option Nat) × (Nat → Int32) × (Nat → Int32) × (Nat → Int32) × (Nat → Int32) × (Nat → Int32) × (Nat → Int32) × (Nat → Int32) × (Nat → Int64) × (Nat → Int64)) => match u with | (st0, tb0, ti0, st1, tb1, ti1, fsz, ftz, fiz, fz, tz, s0z, t0z, s1z, t1z, smz, i0z, i1z) => (∀ j, j < 288 → fz j = f j) ∧ fsz 0 = some st0 ∧ fsz 1 = some st1 ∧ ftz 0 = some tb0 ∧ ftz 1 = some tb1 ∧ fiz 0 = some ti0 ∧ fiz 1 = some ti1) (fun (u : Nat × Nat × Nat × Nat × Nat × Nat × (Nat → Option Nat) × (Nat → Option Nat) × (Nat → Option Nat) × (Nat → Int32) × (Nat → Int32) × (Nat → Int32) × (Nat → Int32) × (Nat → Int32) × (Nat → Int32) × (Nat → Int32) × (Nat → Int64) × (Nat → Int64)) => match u with | (st0, tb0, ti0, st1, tb1, ti1, fsz, ftz, fiz, fz, tz, s0z, t0z, s1z, t1z, smz, i0z, i1z) => [(hm, .inr (12, [.ref ms, .ref mkp, .int (nI km), .ref mtr, .int (nI n), .int (nI k), .int (nI al), .int (nI be), .int ea, .int pr, .ref mas, .int nq, .int po, .int (nI en), .ref mso, .ref mon, .ref mot, .ref man, .int (nI 0), .int xd, .ref mst, .ref msm, .ref mtb, .ref mti, .ref mfr, .ref mbn, .ref mbs, .ref mde, .int sF, .int sN, .int sS, .int ig, .long xa, .long xb, .ref maa, .ref mab, .ref mba, .ref mbb])), (ms, .inl (cs 0, 288, .inl fz)), (mtr, .inl (cs 0, 288, .inl tz)), (mst, .inl (cs 5, 2, .inr (.inr (.inr (.inr fsz))))), (st0, .inl (cs 0, 96048, .inl s0z)), (st1, .inl (cs 0, 96048, .inl s1z)), (mtb, .inl (cs 5, 2, .inr (.inr (.inr (.inr ftz))))), (tb0, .inl (cs 0, 8192, .inl t0z)), (tb1, .inl (cs 0, 8192, .inl t1z)), (mti, .inl (cs 6, 2, .inr (.inr (.inr (.inr fiz))))), (ti0, .inl (cs 1, 2001, .inr (.inl i0z))), (ti1, .inl (cs 1, 2001, .inr (.inl i1z))), (msm, .inl (cs 0, 2, .inl smz))])) := by
  refine xMet.intro (by decide) (Nat.le_of_ble_eq_true rfl) ?_
  intro p e s m args below meth c A ls C hP hD hS hl
  have hx := C.1
  have hb := C.2.1
  have hz := C.2.2.2.2.1
  have hown := C.2.2.2.1
  have hA := C.2.2.2.2.2.2.2.2.2
  have hAO := C.2.2.2.2.2.2.2.2.1.2.2
  replace hl : lv_has ls 8 [(0, .ref hm), (1, .int x)] := hl
  obtain ⟨H, hH⟩ : ∃ H, H = s.heap := ⟨_, rfl⟩
  replace hP : va_P D vwCl [(hm, .inr (12, [.ref ms, .ref mkp, .int (nI km), .ref mtr, .int (nI n), .int (nI k), .int (nI al), .int (nI be), .int ea, .int pr, .ref mas, .int nq, .int po, .int (nI en), .ref mso, .ref mon, .ref mot, .ref man, .int th, .int xd, .ref mst, .ref msm, .ref mtb, .ref mti, .ref mfr, .ref mbn, .ref mbs, .ref mde, .int sF, .int sN, .int sS, .int ig, .long xa, .long xb, .ref maa, .ref mab, .ref mba, .ref mbb])), (ms, .inl (cs 0, 288, .inl f)), (mtr, .inl (cs 0, 288, .inl tf)), (mst, .inl (cs 5, 2, .inr (.inr (.inr (.inr fst))))), (st0, .inl (cs 0, 96048, .inl s0)), (st1, .inl (cs 0, 96048, .inl s1)), (mtb, .inl (cs 5, 2, .inr (.inr (.inr (.inr ftb))))), (tb0, .inl (cs 0, 8192, .inl t0)), (tb1, .inl (cs 0, 8192, .inl t1)), (mti, .inl (cs 6, 2, .inr (.inr (.inr (.inr fti))))), (ti0, .inl (cs 1, 2001, .inr (.inl i0))), (ti1, .inl (cs 1, 2001, .inr (.inl i1))), (msm, .inl (cs 0, 2, .inl smf))] H := by rw [hH]; exact hP
  replace hS : va_S A s.heap H [] := by rw [hH]; exact hS
  obtain ⟨locs, hlocs⟩ : ∃ z : List Loc, z = [] := ⟨_, rfl⟩
  rw [← hlocs] at hS
  suffices hW : W p l e ({ frames := 6, cells := 0, slots := 0, locals := 148 } : Room) s m args below meth c H locs 0 0 (MQ below ((xQi D (fun (r : Int32) (u : Nat × Nat × Nat × Nat × Nat × Nat × (Nat → Option Nat) × (Nat → Option Nat) × (Nat → Option Nat) × (Nat → Int32) × (Nat → Int32) × (Nat → Int32) × (Nat → Int32) × (Nat → Int32) × (Nat → Int32) × (Nat → Int32) × (Nat → Int64) × (Nat → Int64)) => match u with | (st0, tb0, ti0, st1, tb1, ti1, fsz, ftz, fiz, fz, tz, s0z, t0z, s1z, t1z, smz, i0z, i1z) => (∀ j, j < 288 → fz j = f j) ∧ fsz 0 = some st0 ∧ fsz 1 = some st1 ∧ ftz 0 = some tb0 ∧ ftz 1 = some tb1 ∧ fiz 0 = some ti0 ∧ fiz 1 = some ti1) (fun (u : Nat × Nat × Nat × Nat × Nat × Nat × (Nat → Option Nat) × (Nat → Option Nat) × (Nat → Option Nat) × (Nat → Int32) × (Nat → Int32) × (Nat → Int32) × (Nat → Int32) × (Nat → Int32) × (Nat → Int32) × (Nat → Int32) × (Nat → Int64) × (Nat → Int64)) => match u with | (st0, tb0, ti0, st1, tb1, ti1, fsz, ftz, fiz, fz, tz, s0z, t0z, s1z, t1z, smz, i0z, i1z) => [(hm, .inr (12, [.ref ms, .ref mkp, .int (nI km), .ref mtr, .int (nI n), .int (nI k), .int (nI al), .int (nI be), .int ea, .int pr, .ref mas, .int nq, .int po, .int (nI en), .ref mso, .ref mon, .ref mot, .ref man, .int (nI 0), .int xd, .ref mst, .ref msm, .ref mtb, .ref mti, .ref mfr, .ref mbn, .ref mbs, .ref mde, .int sF, .int sN, .int sS, .int ig, .long xa, .long xb, .ref maa, .ref mab, .ref mba, .ref mbb])), (ms, .inl (cs 0, 288, .inl fz)), (mtr, .inl (cs 0, 288, .inl tz)), (mst, .inl (cs 5, 2, .inr (.inr (.inr (.inr fsz))))), (st0, .inl (cs 0, 96048, .inl s0z)), (st1, .inl (cs 0, 96048, .inl s1z)), (mtb, .inl (cs 5, 2, .inr (.inr (.inr (.inr ftz))))), (tb0, .inl (cs 0, 8192, .inl t0z)), (tb1, .inl (cs 0, 8192, .inl t1z)), (mti, .inl (cs 6, 2, .inr (.inr (.inr (.inr fiz))))), (ti0, .inl (cs 1, 2001, .inr (.inl i0z))), (ti1, .inl (cs 1, 2001, .inr (.inl i1z))), (msm, .inl (cs 0, 2, .inl smz))])) A) args s 0 0 A) (F0 m 0 ls []) by rw [hlocs, hH] at hW; exact hW
  clear hH hlocs
  refine lv_aload_n hx hb dX12_odds_0 rfl (lv_at hl 0 rfl) ?_
  refine lv_iconst (v := nI 0) hx hb dX12_odds_1 (by decide) ?_
  refine xput C hP hD hS 0 rfl rfl zuX12 tyX12 tyX12_ok nmX12 18 (by decide) zw5_231 rfl rfl rfl (Nat.le_of_ble_eq_true rfl) dX12_odds_2 ?_
  clear hP hD hS
  try clear locs
  try clear H
  intro H locs hP hD hS
  replace hP : va_P D vwCl [(hm, .inr (12, [.ref ms, .ref mkp, .int (nI km), .ref mtr, .int (nI n), .int (nI k), .int (nI al), .int (nI be), .int ea, .int pr, .ref mas, .int nq, .int po, .int (nI en), .ref mso, .ref mon, .ref mot, .ref man, .int (nI 0), .int xd, .ref mst, .ref msm, .ref mtb, .ref mti, .ref mfr, .ref mbn, .ref mbs, .ref mde, .int sF, .int sN, .int sS, .int ig, .long xa, .long xb, .ref maa, .ref mab, .ref mba, .ref mbb])), (ms, .inl (cs 0, 288, .inl f)), (mtr, .inl (cs 0, 288, .inl tf)), (mst, .inl (cs 5, 2, .inr (.inr (.inr (.inr fst))))), (st0, .inl (cs 0, 96048, .inl s0)), (st1, .inl (cs 0, 96048, .inl s1)), (mtb, .inl (cs 5, 2, .inr (.inr (.inr (.inr ftb))))), (tb0, .inl (cs 0, 8192, .inl t0)), (tb1, .inl (cs 0, 8192, .inl t1)), (mti, .inl (cs 6, 2, .inr (.inr (.inr (.inr fti))))), (ti0, .inl (cs 1, 2001, .inr (.inl i0))), (ti1, .inl (cs 1, 2001, .inr (.inl i1))), (msm, .inl (cs 0, 2, .inl smf))] H := hP
  replace hD : va_D A [(hm, .inr (12, [.ref ms, .ref mkp, .int (nI km), .ref mtr, .int (nI n), .int (nI k), .int (nI al), .int (nI be), .int ea, .int pr, .ref mas, .int nq, .int po, .int (nI en), .ref mso, .ref mon, .ref mot, .ref man, .int (nI 0), .int xd, .ref mst, .ref msm, .ref mtb, .ref mti, .ref mfr, .ref mbn, .ref mbs, .ref mde, .int sF, .int sN, .int sS, .int ig, .long xa, .long xb, .ref maa, .ref mab, .ref mba, .ref mbb])), (ms, .inl (cs 0, 288, .inl f)), (mtr, .inl (cs 0, 288, .inl tf)), (mst, .inl (cs 5, 2, .inr (.inr (.inr (.inr fst))))), (st0, .inl (cs 0, 96048, .inl s0)), (st1, .inl (cs 0, 96048, .inl s1)), (mtb, .inl (cs 5, 2, .inr (.inr (.inr (.inr ftb))))), (tb0, .inl (cs 0, 8192, .inl t0)), (tb1, .inl (cs 0, 8192, .inl t1)), (mti, .inl (cs 6, 2, .inr (.inr (.inr (.inr fti))))), (ti0, .inl (cs 1, 2001, .inr (.inl i0))), (ti1, .inl (cs 1, 2001, .inr (.inl i1))), (msm, .inl (cs 0, 2, .inl smf))] := hD
  refine lv_iload_n hx hb dX12_odds_5 rfl (lv_at hl 1 rfl) ?_
  refine lv_iconst (v := nI 1) hx hb dX12_odds_6 (by decide) ?_
  refine lv_bipush (v := nI 12) hx hb dX12_odds_7 (by decide) ?_
  refine xi (wr := [(hm, .inr (12, [.ref ms, .ref mkp, .int (nI km), .ref mtr, .int (nI n), .int (nI k), .int (nI al), .int (nI be), .int ea, .int pr, .ref mas, .int nq, .int po, .int (nI en), .ref mso, .ref mon, .ref mot, .ref man, .int (nI 0), .int xd, .ref mst, .ref msm, .ref mtb, .ref mti, .ref mfr, .ref mbn, .ref mbs, .ref mde, .int sF, .int sN, .int sS, .int ig, .long xa, .long xb, .ref maa, .ref mab, .ref mba, .ref mbb])), (ms, .inl (cs 0, 288, .inl f)), (mtr, .inl (cs 0, 288, .inl tf)), (mst, .inl (cs 5, 2, .inr (.inr (.inr (.inr fst))))), (st0, .inl (cs 0, 96048, .inl s0)), (st1, .inl (cs 0, 96048, .inl s1)), (mtb, .inl (cs 5, 2, .inr (.inr (.inr (.inr ftb))))), (tb0, .inl (cs 0, 8192, .inl t0)), (tb1, .inl (cs 0, 8192, .inl t1)), (mti, .inl (cs 6, 2, .inr (.inr (.inr (.inr fti))))), (ti0, .inl (cs 1, 2001, .inr (.inl i0))), (ti1, .inl (cs 1, 2001, .inr (.inl i1))), (msm, .inl (cs 0, 2, .inl smf))]) (xS (As := [.int x, .int (nI 1), .int (nI 12)]) (rest := []) C (c_X12_within l D cs x (nI 1) (nI 12)) kX12_116 hP hD [] rfl (by decide +kernel) ⟨Nat.le_of_ble_eq_true rfl, Nat.le_of_ble_eq_true rfl⟩ rfl hl.1 rfl (Nat.le_of_ble_eq_true rfl) dX12_odds_9 ⟨Nat.le_of_ble_eq_true rfl, Nat.le_of_ble_eq_true rfl⟩) hP hD hS hA [] [0, 1, 2, 3, 4, 5, 6, 7, 8, 9, 10, 11, 12] rfl rfl (by decide +kernel) (by decide +kernel) ?_
  clear hP hD hS
  try clear locs
  try clear H
  intro r_1 u_2 H locs hw_r_1 hP hD hS
  have hw_r_1 : PQ (¬ x < (nI 1) ∧ x ≤ (nI 12)) r_1 (nI 1) (nI 0) := hw_r_1
  refine W.widen (k := 0) (n := 0) (Nat.le_of_ble_eq_true rfl) (Nat.le_of_ble_eq_true rfl) ?_
  replace hP : va_P D vwCl [(hm, .inr (12, [.ref ms, .ref mkp, .int (nI km), .ref mtr, .int (nI n), .int (nI k), .int (nI al), .int (nI be), .int ea, .int pr, .ref mas, .int nq, .int po, .int (nI en), .ref mso, .ref mon, .ref mot, .ref man, .int (nI 0), .int xd, .ref mst, .ref msm, .ref mtb, .ref mti, .ref mfr, .ref mbn, .ref mbs, .ref mde, .int sF, .int sN, .int sS, .int ig, .long xa, .long xb, .ref maa, .ref mab, .ref mba, .ref mbb])), (ms, .inl (cs 0, 288, .inl f)), (mtr, .inl (cs 0, 288, .inl tf)), (mst, .inl (cs 5, 2, .inr (.inr (.inr (.inr fst))))), (st0, .inl (cs 0, 96048, .inl s0)), (st1, .inl (cs 0, 96048, .inl s1)), (mtb, .inl (cs 5, 2, .inr (.inr (.inr (.inr ftb))))), (tb0, .inl (cs 0, 8192, .inl t0)), (tb1, .inl (cs 0, 8192, .inl t1)), (mti, .inl (cs 6, 2, .inr (.inr (.inr (.inr fti))))), (ti0, .inl (cs 1, 2001, .inr (.inl i0))), (ti1, .inl (cs 1, 2001, .inr (.inl i1))), (msm, .inl (cs 0, 2, .inl smf))] H := hP
  replace hD : va_D A [(hm, .inr (12, [.ref ms, .ref mkp, .int (nI km), .ref mtr, .int (nI n), .int (nI k), .int (nI al), .int (nI be), .int ea, .int pr, .ref mas, .int nq, .int po, .int (nI en), .ref mso, .ref mon, .ref mot, .ref man, .int (nI 0), .int xd, .ref mst, .ref msm, .ref mtb, .ref mti, .ref mfr, .ref mbn, .ref mbs, .ref mde, .int sF, .int sN, .int sS, .int ig, .long xa, .long xb, .ref maa, .ref mab, .ref mba, .ref mbb])), (ms, .inl (cs 0, 288, .inl f)), (mtr, .inl (cs 0, 288, .inl tf)), (mst, .inl (cs 5, 2, .inr (.inr (.inr (.inr fst))))), (st0, .inl (cs 0, 96048, .inl s0)), (st1, .inl (cs 0, 96048, .inl s1)), (mtb, .inl (cs 5, 2, .inr (.inr (.inr (.inr ftb))))), (tb0, .inl (cs 0, 8192, .inl t0)), (tb1, .inl (cs 0, 8192, .inl t1)), (mti, .inl (cs 6, 2, .inr (.inr (.inr (.inr fti))))), (ti0, .inl (cs 1, 2001, .inr (.inl i0))), (ti1, .inl (cs 1, 2001, .inr (.inl i1))), (msm, .inl (cs 0, 2, .inl smf))] := hD
  refine lv_if_ne (tgt := 17) hx hb dX12_odds_12 (by decide) (fun c_3 => ?_) (fun c_3 => ?_)
  · -- 12 t
    have htold : mtoldP x := PQ.yes hw_r_1 c_3
    obtain ⟨t, h_t, rfl⟩ := htold.nat
    replace hP : va_P D vwCl [(hm, .inr (12, [.ref ms, .ref mkp, .int (nI km), .ref mtr, .int (nI n), .int (nI k), .int (nI al), .int (nI be), .int ea, .int pr, .ref mas, .int nq, .int po, .int (nI en), .ref mso, .ref mon, .ref mot, .ref man, .int (nI 0), .int xd, .ref mst, .ref msm, .ref mtb, .ref mti, .ref mfr, .ref mbn, .ref mbs, .ref mde, .int sF, .int sN, .int sS, .int ig, .long xa, .long xb, .ref maa, .ref mab, .ref mba, .ref mbb])), (ms, .inl (cs 0, 288, .inl f)), (mtr, .inl (cs 0, 288, .inl tf)), (mst, .inl (cs 5, 2, .inr (.inr (.inr (.inr fst))))), (st0, .inl (cs 0, 96048, .inl s0)), (st1, .inl (cs 0, 96048, .inl s1)), (mtb, .inl (cs 5, 2, .inr (.inr (.inr (.inr ftb))))), (tb0, .inl (cs 0, 8192, .inl t0)), (tb1, .inl (cs 0, 8192, .inl t1)), (mti, .inl (cs 6, 2, .inr (.inr (.inr (.inr fti))))), (ti0, .inl (cs 1, 2001, .inr (.inl i0))), (ti1, .inl (cs 1, 2001, .inr (.inl i1))), (msm, .inl (cs 0, 2, .inl smf))] H := hP
    replace hD : va_D A [(hm, .inr (12, [.ref ms, .ref mkp, .int (nI km), .ref mtr, .int (nI n), .int (nI k), .int (nI al), .int (nI be), .int ea, .int pr, .ref mas, .int nq, .int po, .int (nI en), .ref mso, .ref mon, .ref mot, .ref man, .int (nI 0), .int xd, .ref mst, .ref msm, .ref mtb, .ref mti, .ref mfr, .ref mbn, .ref mbs, .ref mde, .int sF, .int sN, .int sS, .int ig, .long xa, .long xb, .ref maa, .ref mab, .ref mba, .ref mbb])), (ms, .inl (cs 0, 288, .inl f)), (mtr, .inl (cs 0, 288, .inl tf)), (mst, .inl (cs 5, 2, .inr (.inr (.inr (.inr fst))))), (st0, .inl (cs 0, 96048, .inl s0)), (st1, .inl (cs 0, 96048, .inl s1)), (mtb, .inl (cs 5, 2, .inr (.inr (.inr (.inr ftb))))), (tb0, .inl (cs 0, 8192, .inl t0)), (tb1, .inl (cs 0, 8192, .inl t1)), (mti, .inl (cs 6, 2, .inr (.inr (.inr (.inr fti))))), (ti0, .inl (cs 1, 2001, .inr (.inl i0))), (ti1, .inl (cs 1, 2001, .inr (.inl i1))), (msm, .inl (cs 0, 2, .inl smf))] := hD
    refine lv_aload_n hx hb dX12_odds_17 rfl (lv_at hl 0 rfl) ?_
    refine lv_iload_n hx hb dX12_odds_18 rfl (lv_at hl 1 rfl) ?_
    refine xl (wr := [(ms, .inl (cs 0, 288, .inl f)), (mtr, .inl (cs 0, 288, .inl tf)), (mst, .inl (cs 5, 2, .inr (.inr (.inr (.inr fst))))), (st0, .inl (cs 0, 96048, .inl s0)), (st1, .inl (cs 0, 96048, .inl s1)), (mtb, .inl (cs 5, 2, .inr (.inr (.inr (.inr ftb))))), (tb0, .inl (cs 0, 8192, .inl t0)), (tb1, .inl (cs 0, 8192, .inl t1)), (mti, .inl (cs 6, 2, .inr (.inr (.inr (.inr fti))))), (ti0, .inl (cs 1, 2001, .inr (.inl i0))), (ti1, .inl (cs 1, 2001, .inr (.inl i1))), (msm, .inl (cs 0, 2, .inl smf))]) (xV (As := [.int (nI t)]) (rest := []) C (c_X12_waysOf l D cs hm ms mkp mtr mas mso mon mot man mst msm mtb mti mfr mbn mbs mde maa mab mba mbb n k al be km en ea pr nq po (nI 0) xd sF sN sS ig xa xb t hn hkn h_t) kX12_221 hP hD [0] rfl (by decide +kernel) 0 rfl rfl rfl ⟨Nat.le_of_ble_eq_true rfl, Nat.le_of_ble_eq_true rfl⟩ rfl hl.1 rfl (Nat.le_of_ble_eq_true rfl) dX12_odds_19 ⟨Nat.le_of_ble_eq_true rfl, Nat.le_of_ble_eq_true rfl⟩) hP hD hS hA [0] [1, 2, 3, 4, 5, 6, 7, 8, 9, 10, 11, 12] rfl rfl (by decide +kernel) (by decide +kernel) ?_
    clear hP hD hS
    try clear locs
    try clear H
    intro r_4 u_5 H locs hw_r_4 hP hD hS
    have hw_r_4 : r_4 = wmN n k t := hw_r_4
    refine W.widen (k := 0) (n := 0) (Nat.le_of_ble_eq_true rfl) (Nat.le_of_ble_eq_true rfl) ?_
    replace hP : va_P D vwCl [(ms, .inl (cs 0, 288, .inl f)), (mtr, .inl (cs 0, 288, .inl tf)), (mst, .inl (cs 5, 2, .inr (.inr (.inr (.inr fst))))), (st0, .inl (cs 0, 96048, .inl s0)), (st1, .inl (cs 0, 96048, .inl s1)), (mtb, .inl (cs 5, 2, .inr (.inr (.inr (.inr ftb))))), (tb0, .inl (cs 0, 8192, .inl t0)), (tb1, .inl (cs 0, 8192, .inl t1)), (mti, .inl (cs 6, 2, .inr (.inr (.inr (.inr fti))))), (ti0, .inl (cs 1, 2001, .inr (.inl i0))), (ti1, .inl (cs 1, 2001, .inr (.inl i1))), (msm, .inl (cs 0, 2, .inl smf)), (hm, .inr (12, [.ref ms, .ref mkp, .int (nI km), .ref mtr, .int (nI n), .int (nI k), .int (nI al), .int (nI be), .int ea, .int pr, .ref mas, .int nq, .int po, .int (nI en), .ref mso, .ref mon, .ref mot, .ref man, .int (nI 0), .int xd, .ref mst, .ref msm, .ref mtb, .ref mti, .ref mfr, .ref mbn, .ref mbs, .ref mde, .int sF, .int sN, .int sS, .int ig, .long xa, .long xb, .ref maa, .ref mab, .ref mba, .ref mbb]))] H := hP
    replace hD : va_D A [(ms, .inl (cs 0, 288, .inl f)), (mtr, .inl (cs 0, 288, .inl tf)), (mst, .inl (cs 5, 2, .inr (.inr (.inr (.inr fst))))), (st0, .inl (cs 0, 96048, .inl s0)), (st1, .inl (cs 0, 96048, .inl s1)), (mtb, .inl (cs 5, 2, .inr (.inr (.inr (.inr ftb))))), (tb0, .inl (cs 0, 8192, .inl t0)), (tb1, .inl (cs 0, 8192, .inl t1)), (mti, .inl (cs 6, 2, .inr (.inr (.inr (.inr fti))))), (ti0, .inl (cs 1, 2001, .inr (.inl i0))), (ti1, .inl (cs 1, 2001, .inr (.inl i1))), (msm, .inl (cs 0, 2, .inl smf)), (hm, .inr (12, [.ref ms, .ref mkp, .int (nI km), .ref mtr, .int (nI n), .int (nI k), .int (nI al), .int (nI be), .int ea, .int pr, .ref mas, .int nq, .int po, .int (nI en), .ref mso, .ref mon, .ref mot, .ref man, .int (nI 0), .int xd, .ref mst, .ref msm, .ref mtb, .ref mti, .ref mfr, .ref mbn, .ref mbs, .ref mde, .int sF, .int sN, .int sS, .int ig, .long xa, .long xb, .ref maa, .ref mab, .ref mba, .ref mbb]))] := hD
    subst hw_r_4
    replace hP : va_P D vwCl [(ms, .inl (cs 0, 288, .inl f)), (mtr, .inl (cs 0, 288, .inl tf)), (mst, .inl (cs 5, 2, .inr (.inr (.inr (.inr fst))))), (st0, .inl (cs 0, 96048, .inl s0)), (st1, .inl (cs 0, 96048, .inl s1)), (mtb, .inl (cs 5, 2, .inr (.inr (.inr (.inr ftb))))), (tb0, .inl (cs 0, 8192, .inl t0)), (tb1, .inl (cs 0, 8192, .inl t1)), (mti, .inl (cs 6, 2, .inr (.inr (.inr (.inr fti))))), (ti0, .inl (cs 1, 2001, .inr (.inl i0))), (ti1, .inl (cs 1, 2001, .inr (.inl i1))), (msm, .inl (cs 0, 2, .inl smf)), (hm, .inr (12, [.ref ms, .ref mkp, .int (nI km), .ref mtr, .int (nI n), .int (nI k), .int (nI al), .int (nI be), .int ea, .int pr, .ref mas, .int nq, .int po, .int (nI en), .ref mso, .ref mon, .ref mot, .ref man, .int (nI 0), .int xd, .ref mst, .ref msm, .ref mtb, .ref mti, .ref mfr, .ref mbn, .ref mbs, .ref mde, .int sF, .int sN, .int sS, .int ig, .long xa, .long xb, .ref maa, .ref mab, .ref mba, .ref mbb]))] H := hP
    replace hD : va_D A [(ms, .inl (cs 0, 288, .inl f)), (mtr, .inl (cs 0, 288, .inl tf)), (mst, .inl (cs 5, 2, .inr (.inr (.inr (.inr fst))))), (st0, .inl (cs 0, 96048, .inl s0)), (st1, .inl (cs 0, 96048, .inl s1)), (mtb, .inl (cs 5, 2, .inr (.inr (.inr (.inr ftb))))), (tb0, .inl (cs 0, 8192, .inl t0)), (tb1, .inl (cs 0, 8192, .inl t1)), (mti, .inl (cs 6, 2, .inr (.inr (.inr (.inr fti))))), (ti0, .inl (cs 1, 2001, .inr (.inl i0))), (ti1, .inl (cs 1, 2001, .inr (.inl i1))), (msm, .inl (cs 0, 2, .inl smf)), (hm, .inr (12, [.ref ms, .ref mkp, .int (nI km), .ref mtr, .int (nI n), .int (nI k), .int (nI al), .int (nI be), .int ea, .int pr, .ref mas, .int nq, .int po, .int (nI en), .ref mso, .ref mon, .ref mot, .ref man, .int (nI 0), .int xd, .ref mst, .ref msm, .ref mtb, .ref mti, .ref mfr, .ref mbn, .ref mbs, .ref mde, .int sF, .int sN, .int sS, .int ig, .long xa, .long xb, .ref maa, .ref mab, .ref mba, .ref mbb]))] := hD
    refine lv_lstore_n (lv' := [(2, .long (wmN n k t)), (0, .ref hm), (1, .int (nI t))]) hx hb dX12_odds_22 rfl hl (by decide) rfl ?_
    clear hl
    try clear ls
    intro ls hl
    refine lv_lload_n hx hb dX12_odds_23 rfl (lv_at hl 0 rfl) ?_
    refine lv_lconst (v := 0) hx hb dX12_odds_24 (by decide) ?_
    refine W.lcmp hx hb dX12_odds_25 ?_
    refine lv_if_ge (tgt := 32) hx hb dX12_odds_26 (by decide) (fun c_6 => ?_) (fun c_6 => ?_)
    · -- 26 t
      refine lv_aload_n hx hb dX12_odds_32 rfl (lv_at hl 1 rfl) ?_
      refine lv_iload_n hx hb dX12_odds_33 rfl (lv_at hl 2 rfl) ?_
      refine lv_iconst (v := nI 1) hx hb dX12_odds_34 (by decide) ?_
      refine lv_iconst (v := nI 0) hx hb dX12_odds_35 (by decide) ?_
      refine xl (wr := []) (xV (As := [.int (nI t), .int (nI 1), .int (nI 0)]) (rest := []) C (c_X12_counted_a l D cs hm ms mkp mtr mas mso mon mot man mst msm mtb mti mfr mbn mbs mde maa mab mba mbb n k al be km en ea pr nq po (nI 0) xd sF sN sS ig xa xb f tf st0 tb0 ti0 st1 tb1 ti1 fst ftb fti s0 t0 s1 t1 smf i0 i1 t (nI 1) (nI 0) hn hs hfs0 hfs1 hft0 hft1 hfi0 hfi1 h_t) kX12_227 hP hD [12, 0, 1, 2, 3, 4, 5, 6, 7, 8, 9, 10, 11] rfl (by decide +kernel) 0 rfl rfl rfl ⟨Nat.le_of_ble_eq_true rfl, Nat.le_of_ble_eq_true rfl⟩ rfl hl.1 rfl (Nat.le_of_ble_eq_true rfl) dX12_odds_36 ⟨Nat.le_of_ble_eq_true rfl, Nat.le_of_ble_eq_true rfl⟩) hP hD hS hA [12, 0, 1, 2, 3, 4, 5, 6, 7, 8, 9, 10, 11] [] rfl rfl (by decide +kernel) (by decide +kernel) ?_
      clear hP hD hS
      try clear locs
      try clear H
      intro r_7 u_8 H locs hw_r_7 hP hD hS
      obtain ⟨st0_9, tb0_10, ti0_11, st1_12, tb1_13, ti1_14, fsz_15, ftz_16, fiz_17, fz_18, tz_19, s0z_20, t0z_21, s1z_22, t1z_23, smz_24, i0z_25, i1z_26⟩ := u_8
      have hw_r_7 : (∀ j, j < 288 → fz_18 j = f j) ∧ fsz_15 0 = some st0_9 ∧ fsz_15 1 = some st1_12 ∧ ftz_16 0 = some tb0_10 ∧ ftz_16 1 = some tb1_13 ∧ fiz_17 0 = some ti0_11 ∧ fiz_17 1 = some ti1_14 := hw_r_7
      refine W.widen (k := 0) (n := 0) (Nat.le_of_ble_eq_true rfl) (Nat.le_of_ble_eq_true rfl) ?_
      replace hP : va_P D vwCl [(hm, .inr (12, [.ref ms, .ref mkp, .int (nI km), .ref mtr, .int (nI n), .int (nI k), .int (nI al), .int (nI be), .int ea, .int pr, .ref mas, .int nq, .int po, .int (nI en), .ref mso, .ref mon, .ref mot, .ref man, .int (nI 0), .int xd, .ref mst, .ref msm, .ref mtb, .ref mti, .ref mfr, .ref mbn, .ref mbs, .ref mde, .int sF, .int sN, .int sS, .int ig, .long xa, .long xb, .ref maa, .ref mab, .ref mba, .ref mbb])), (ms, .inl (cs 0, 288, .inl fz_18)), (mtr, .inl (cs 0, 288, .inl tz_19)), (mst, .inl (cs 5, 2, .inr (.inr (.inr (.inr fsz_15))))), (st0_9, .inl (cs 0, 96048, .inl s0z_20)), (st1_12, .inl (cs 0, 96048, .inl s1z_22)), (mtb, .inl (cs 5, 2, .inr (.inr (.inr (.inr ftz_16))))), (tb0_10, .inl (cs 0, 8192, .inl t0z_21)), (tb1_13, .inl (cs 0, 8192, .inl t1z_23)), (mti, .inl (cs 6, 2, .inr (.inr (.inr (.inr fiz_17))))), (ti0_11, .inl (cs 1, 2001, .inr (.inl i0z_25))), (ti1_14, .inl (cs 1, 2001, .inr (.inl i1z_26))), (msm, .inl (cs 0, 2, .inl smz_24))] H := hP
      replace hD : va_D A [(hm, .inr (12, [.ref ms, .ref mkp, .int (nI km), .ref mtr, .int (nI n), .int (nI k), .int (nI al), .int (nI be), .int ea, .int pr, .ref mas, .int nq, .int po, .int (nI en), .ref mso, .ref mon, .ref mot, .ref man, .int (nI 0), .int xd, .ref mst, .ref msm, .ref mtb, .ref mti, .ref mfr, .ref mbn, .ref mbs, .ref mde, .int sF, .int sN, .int sS, .int ig, .long xa, .long xb, .ref maa, .ref mab, .ref mba, .ref mbb])), (ms, .inl (cs 0, 288, .inl fz_18)), (mtr, .inl (cs 0, 288, .inl tz_19)), (mst, .inl (cs 5, 2, .inr (.inr (.inr (.inr fsz_15))))), (st0_9, .inl (cs 0, 96048, .inl s0z_20)), (st1_12, .inl (cs 0, 96048, .inl s1z_22)), (mtb, .inl (cs 5, 2, .inr (.inr (.inr (.inr ftz_16))))), (tb0_10, .inl (cs 0, 8192, .inl t0z_21)), (tb1_13, .inl (cs 0, 8192, .inl t1z_23)), (mti, .inl (cs 6, 2, .inr (.inr (.inr (.inr fiz_17))))), (ti0_11, .inl (cs 1, 2001, .inr (.inl i0z_25))), (ti1_14, .inl (cs 1, 2001, .inr (.inl i1z_26))), (msm, .inl (cs 0, 2, .inl smz_24))] := hD
      refine lv_lstore (lv' := [(4, .long r_7), (2, .long (wmN n k t)), (0, .ref hm), (1, .int (nI t))]) hx hb dX12_odds_39 hl (by decide) rfl ?_
      clear hl
      try clear ls
      intro ls hl
      refine lv_lload hx hb dX12_odds_41 (lv_at hl 0 rfl) ?_
      refine lv_lconst (v := 0) hx hb dX12_odds_43 (by decide) ?_
      refine W.lcmp hx hb dX12_odds_44 ?_
      refine lv_if_ge (tgt := 51) hx hb dX12_odds_45 (by decide) (fun c_27 => ?_) (fun c_27 => ?_)
      · -- 45 t
        refine lv_lload_n hx hb dX12_odds_51 rfl (lv_at hl 1 rfl) ?_
        refine lv_l2f hx hb dX12_odds_52 ?_
        refine lv_fstore (lv' := [(6, .float (FP.l2f (wmN n k t))), (4, .long r_7), (2, .long (wmN n k t)), (0, .ref hm), (1, .int (nI t))]) hx hb dX12_odds_53 hl (by decide) rfl ?_
        clear hl
        try clear ls
        intro ls hl
        refine lv_lload hx hb dX12_odds_55 (lv_at hl 1 rfl) ?_
        refine lv_l2f hx hb dX12_odds_57 ?_
        refine lv_fstore (lv' := [(7, .float (FP.l2f r_7)), (6, .float (FP.l2f (wmN n k t))), (4, .long r_7), (2, .long (wmN n k t)), (0, .ref hm), (1, .int (nI t))]) hx hb dX12_odds_58 hl (by decide) rfl ?_
        clear hl
        try clear ls
        intro ls hl
        refine lv_fload hx hb dX12_odds_60 (lv_at hl 0 rfl) ?_
        refine lv_fload hx hb dX12_odds_62 (lv_at hl 1 rfl) ?_
        refine lv_fdiv hx hb dX12_odds_64 (fl_div _ (wm_nz hn hkn h_t)) ?_
        refine xi (wr := [(hm, .inr (12, [.ref ms, .ref mkp, .int (nI km), .ref mtr, .int (nI n), .int (nI k), .int (nI al), .int (nI be), .int ea, .int pr, .ref mas, .int nq, .int po, .int (nI en), .ref mso, .ref mon, .ref mot, .ref man, .int (nI 0), .int xd, .ref mst, .ref msm, .ref mtb, .ref mti, .ref mfr, .ref mbn, .ref mbs, .ref mde, .int sF, .int sN, .int sS, .int ig, .long xa, .long xb, .ref maa, .ref mab, .ref mba, .ref mbb])), (ms, .inl (cs 0, 288, .inl fz_18)), (mtr, .inl (cs 0, 288, .inl tz_19)), (mst, .inl (cs 5, 2, .inr (.inr (.inr (.inr fsz_15))))), (st0_9, .inl (cs 0, 96048, .inl s0z_20)), (st1_12, .inl (cs 0, 96048, .inl s1z_22)), (mtb, .inl (cs 5, 2, .inr (.inr (.inr (.inr ftz_16))))), (tb0_10, .inl (cs 0, 8192, .inl t0z_21)), (tb1_13, .inl (cs 0, 8192, .inl t1z_23)), (mti, .inl (cs 6, 2, .inr (.inr (.inr (.inr fiz_17))))), (ti0_11, .inl (cs 1, 2001, .inr (.inl i0z_25))), (ti1_14, .inl (cs 1, 2001, .inr (.inl i1z_26))), (msm, .inl (cs 0, 2, .inl smz_24))]) (xS (As := [.float (FP.fdiv (FP.l2f r_7) (FP.l2f (wmN n k t)))]) (rest := []) C (c_Jxf58ca_floatToIntBits_5c35a l D cs (FP.fdiv (FP.l2f r_7) (FP.l2f (wmN n k t)))) kX12_231 hP hD [] rfl (by decide +kernel) ⟨Nat.le_of_ble_eq_true rfl, Nat.le_of_ble_eq_true rfl⟩ rfl hl.1 rfl (Nat.le_of_ble_eq_true rfl) dX12_odds_65 ⟨Nat.le_of_ble_eq_true rfl, Nat.le_of_ble_eq_true rfl⟩) hP hD hS hA [] [0, 1, 2, 3, 4, 5, 6, 7, 8, 9, 10, 11, 12] rfl rfl (by decide +kernel) (by decide +kernel) ?_
        clear hP hD hS
        try clear locs
        try clear H
        intro r_28 u_29 H locs hw_r_28 hP hD hS
        refine W.widen (k := 0) (n := 0) (Nat.le_of_ble_eq_true rfl) (Nat.le_of_ble_eq_true rfl) ?_
        replace hP : va_P D vwCl [(hm, .inr (12, [.ref ms, .ref mkp, .int (nI km), .ref mtr, .int (nI n), .int (nI k), .int (nI al), .int (nI be), .int ea, .int pr, .ref mas, .int nq, .int po, .int (nI en), .ref mso, .ref mon, .ref mot, .ref man, .int (nI 0), .int xd, .ref mst, .ref msm, .ref mtb, .ref mti, .ref mfr, .ref mbn, .ref mbs, .ref mde, .int sF, .int sN, .int sS, .int ig, .long xa, .long xb, .ref maa, .ref mab, .ref mba, .ref mbb])), (ms, .inl (cs 0, 288, .inl fz_18)), (mtr, .inl (cs 0, 288, .inl tz_19)), (mst, .inl (cs 5, 2, .inr (.inr (.inr (.inr fsz_15))))), (st0_9, .inl (cs 0, 96048, .inl s0z_20)), (st1_12, .inl (cs 0, 96048, .inl s1z_22)), (mtb, .inl (cs 5, 2, .inr (.inr (.inr (.inr ftz_16))))), (tb0_10, .inl (cs 0, 8192, .inl t0z_21)), (tb1_13, .inl (cs 0, 8192, .inl t1z_23)), (mti, .inl (cs 6, 2, .inr (.inr (.inr (.inr fiz_17))))), (ti0_11, .inl (cs 1, 2001, .inr (.inl i0z_25))), (ti1_14, .inl (cs 1, 2001, .inr (.inl i1z_26))), (msm, .inl (cs 0, 2, .inl smz_24))] H := hP
        replace hD : va_D A [(hm, .inr (12, [.ref ms, .ref mkp, .int (nI km), .ref mtr, .int (nI n), .int (nI k), .int (nI al), .int (nI be), .int ea, .int pr, .ref mas, .int nq, .int po, .int (nI en), .ref mso, .ref mon, .ref mot, .ref man, .int (nI 0), .int xd, .ref mst, .ref msm, .ref mtb, .ref mti, .ref mfr, .ref mbn, .ref mbs, .ref mde, .int sF, .int sN, .int sS, .int ig, .long xa, .long xb, .ref maa, .ref mab, .ref mba, .ref mbb])), (ms, .inl (cs 0, 288, .inl fz_18)), (mtr, .inl (cs 0, 288, .inl tz_19)), (mst, .inl (cs 5, 2, .inr (.inr (.inr (.inr fsz_15))))), (st0_9, .inl (cs 0, 96048, .inl s0z_20)), (st1_12, .inl (cs 0, 96048, .inl s1z_22)), (mtb, .inl (cs 5, 2, .inr (.inr (.inr (.inr ftz_16))))), (tb0_10, .inl (cs 0, 8192, .inl t0z_21)), (tb1_13, .inl (cs 0, 8192, .inl t1z_23)), (mti, .inl (cs 6, 2, .inr (.inr (.inr (.inr fiz_17))))), (ti0_11, .inl (cs 1, 2001, .inr (.inl i0z_25))), (ti1_14, .inl (cs 1, 2001, .inr (.inl i1z_26))), (msm, .inl (cs 0, 2, .inl smz_24))] := hD
        exact xreti C (⟨st0_9, tb0_10, ti0_11, st1_12, tb1_13, ti1_14, fsz_15, ftz_16, fiz_17, fz_18, tz_19, s0z_20, t0z_21, s1z_22, t1z_23, smz_24, i0z_25, i1z_26⟩) hw_r_7 hP hD hS (Nat.le_of_ble_eq_true rfl) (Nat.le_of_ble_eq_true rfl) rfl dX12_odds_68
      · -- 45 f
        refine lv_bipush (v := (-3)) hx hb dX12_odds_48 (by decide) ?_
        exact xreti C (⟨st0_9, tb0_10, ti0_11, st1_12, tb1_13, ti1_14, fsz_15, ftz_16, fiz_17, fz_18, tz_19, s0z_20, t0z_21, s1z_22, t1z_23, smz_24, i0z_25, i1z_26⟩) hw_r_7 hP hD hS (Nat.le_of_ble_eq_true rfl) (Nat.le_of_ble_eq_true rfl) rfl dX12_odds_50
    · -- 26 f
      exact absurd (l_nge c_6) (hre.ne h_t)
  · -- 12 f
    exact absurd hre.1 (PQ.no hw_r_1 c_3 (by decide))
