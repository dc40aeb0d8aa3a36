theorem zx0 : (Jvm.Cond.initialized "java/lang/Throwable") ∈ zAll := zT1 (List.mem_of_getElem? (i := 20) rfl) rfl
theorem zx1 : (Jvm.Cond.superclass "java/lang/Throwable" "java/lang/Object") ∈ zAll := zT5 (List.mem_of_getElem? (i := 152) rfl) rfl
theorem zx2 : (Jvm.Cond.instanceMethod ({ cls := "java/lang/Throwable", name := "fillInStackTrace", desc := "()Ljava/lang/Throwable;" } : Jvm.MethodName)) ∈ zAll := zT5 (List.mem_of_getElem? (i := 161) rfl) rfl
theorem zx3 : (Jvm.Cond.codeSync ({ cls := "java/lang/Throwable", name := "fillInStackTrace", desc := "()Ljava/lang/Throwable;" } : Jvm.MethodName) prog_23_method_18_code (1 : Nat) (Option.some (Jvm.ClassFile.FieldType.object "java/lang/Throwable"))) ∈ zAll := zT5 (List.mem_of_getElem? (i := 163) rfl) rfl
theorem zx4 : (Jvm.Cond.instanceMethod ({ cls := "java/lang/Throwable", name := "fillInStackTrace", desc := "(I)Ljava/lang/Throwable;" } : Jvm.MethodName)) ∈ zAll := zT5 (List.mem_of_getElem? (i := 166) rfl) rfl
theorem zx5 : (Jvm.Cond.native ({ cls := "java/lang/Throwable", name := "fillInStackTrace", desc := "(I)Ljava/lang/Throwable;" } : Jvm.MethodName)) ∈ zAll := zT5 (List.mem_of_getElem? (i := 168) rfl) rfl
theorem zx6 : (Jvm.Cond.instanceMethod ({ cls := "java/lang/Throwable", name := "<init>", desc := "()V" } : Jvm.MethodName)) ∈ zAll := zT5 (List.mem_of_getElem? (i := 153) rfl) rfl
theorem zx7 : (Jvm.Cond.code ({ cls := "java/lang/Throwable", name := "<init>", desc := "()V" } : Jvm.MethodName) prog_23_method_1_code (1 : Nat) (Option.none : Option Jvm.ClassFile.FieldType)) ∈ zAll := zT5 (List.mem_of_getElem? (i := 154) rfl) rfl
theorem zx8 : (Jvm.Cond.instanceMethod ({ cls := "java/lang/Object", name := "<init>", desc := "()V" } : Jvm.MethodName)) ∈ zAll := zT1 (List.mem_of_getElem? (i := 30) rfl) rfl
theorem zx9 : (Jvm.Cond.code ({ cls := "java/lang/Object", name := "<init>", desc := "()V" } : Jvm.MethodName) object_method_1_code (1 : Nat) (Option.none : Option Jvm.ClassFile.FieldType)) ∈ zAll := zT1 (List.mem_of_getElem? (i := 31) rfl) rfl
theorem zx10 : (Jvm.Cond.methodLink "java/lang/Throwable" (1 : Nat) ({ cls := "java/lang/Object", name := "<init>", desc := "()V" } : Jvm.MethodName)) ∈ zAll := zT5 (List.mem_of_getElem? (i := 155) rfl) rfl
theorem zx11 : (Jvm.Cond.methodLink "java/lang/Throwable" (27 : Nat) ({ cls := "java/lang/Throwable", name := "fillInStackTrace", desc := "()Ljava/lang/Throwable;" } : Jvm.MethodName)) ∈ zAll := zT5 (List.mem_of_getElem? (i := 160) rfl) rfl
theorem zx12 : (Jvm.Cond.methodLink "java/lang/Throwable" (202 : Nat) ({ cls := "java/lang/Throwable", name := "fillInStackTrace", desc := "(I)Ljava/lang/Throwable;" } : Jvm.MethodName)) ∈ zAll := zT5 (List.mem_of_getElem? (i := 164) rfl) rfl
theorem zx13 : (Jvm.Cond.fieldLink "java/lang/Throwable" (7 : Nat) "java/lang/Throwable" "cause" "Ljava/lang/Throwable;") ∈ zAll := zT5 (List.mem_of_getElem? (i := 180) rfl) rfl
theorem zx14 : (Jvm.Cond.lays "java/lang/Throwable" "java/lang/Throwable" "cause" "Ljava/lang/Throwable;") ∈ zAll := zT5 (List.mem_of_getElem? (i := 142) rfl) rfl
theorem zx15 : (Jvm.Cond.fieldLink "java/lang/Throwable" (17 : Nat) "java/lang/Throwable" "stackTrace" "[Ljava/lang/StackTraceElement;") ∈ zAll := zT5 (List.mem_of_getElem? (i := 181) rfl) rfl
theorem zx16 : (Jvm.Cond.lays "java/lang/Throwable" "java/lang/Throwable" "stackTrace" "[Ljava/lang/StackTraceElement;") ∈ zAll := zT5 (List.mem_of_getElem? (i := 144) rfl) rfl
theorem zx17 : (Jvm.Cond.fieldLink "java/lang/Throwable" (24 : Nat) "java/lang/Throwable" "suppressedExceptions" "Ljava/util/List;") ∈ zAll := zT5 (List.mem_of_getElem? (i := 182) rfl) rfl
theorem zx18 : (Jvm.Cond.lays "java/lang/Throwable" "java/lang/Throwable" "suppressedExceptions" "Ljava/util/List;") ∈ zAll := zT5 (List.mem_of_getElem? (i := 146) rfl) rfl
theorem zx19 : (Jvm.Cond.fieldLink "java/lang/Throwable" (13 : Nat) "java/lang/Throwable" "UNASSIGNED_STACK" "[Ljava/lang/StackTraceElement;") ∈ zAll := zT5 (List.mem_of_getElem? (i := 156) rfl) rfl
theorem zx20 : (Jvm.Cond.fieldLink "java/lang/Throwable" (20 : Nat) "java/lang/Throwable" "SUPPRESSED_SENTINEL" "Ljava/util/List;") ∈ zAll := zT5 (List.mem_of_getElem? (i := 158) rfl) rfl
theorem zx21 : (Jvm.Cond.lays "java/lang/Throwable" "java/lang/Throwable" "detailMessage" "Ljava/lang/String;") ∈ zAll := zT5 (List.mem_of_getElem? (i := 148) rfl) rfl
theorem zx22 : (Jvm.Cond.instanceMethod ({ cls := "java/util/NoSuchElementException", name := "<init>", desc := "()V" } : Jvm.MethodName)) ∈ zAll := zT5 (List.mem_of_getElem? (i := 170) rfl) rfl
theorem zx23 : (Jvm.Cond.code ({ cls := "java/util/NoSuchElementException", name := "<init>", desc := "()V" } : Jvm.MethodName) prog_25_method_1_code (1 : Nat) (Option.none : Option Jvm.ClassFile.FieldType)) ∈ zAll := zT5 (List.mem_of_getElem? (i := 171) rfl) rfl
theorem zx24 : (Jvm.Cond.methodLink "java/util/NoSuchElementException" (1 : Nat) ({ cls := "java/lang/RuntimeException", name := "<init>", desc := "()V" } : Jvm.MethodName)) ∈ zAll := zT5 (List.mem_of_getElem? (i := 172) rfl) rfl
theorem zx25 : (Jvm.Cond.instanceMethod ({ cls := "java/lang/RuntimeException", name := "<init>", desc := "()V" } : Jvm.MethodName)) ∈ zAll := zT5 (List.mem_of_getElem? (i := 173) rfl) rfl
theorem zx27 : (Jvm.Cond.instanceMethod ({ cls := "java/lang/RuntimeException", name := "<init>", desc := "()V" } : Jvm.MethodName)) ∈ zAll := zT5 (List.mem_of_getElem? (i := 173) rfl) rfl
theorem zx28 : (Jvm.Cond.code ({ cls := "java/lang/RuntimeException", name := "<init>", desc := "()V" } : Jvm.MethodName) prog_21_method_1_code (1 : Nat) (Option.none : Option Jvm.ClassFile.FieldType)) ∈ zAll := zT5 (List.mem_of_getElem? (i := 174) rfl) rfl
theorem zx29 : (Jvm.Cond.methodLink "java/lang/RuntimeException" (1 : Nat) ({ cls := "java/lang/Exception", name := "<init>", desc := "()V" } : Jvm.MethodName)) ∈ zAll := zT5 (List.mem_of_getElem? (i := 175) rfl) rfl
theorem zx30 : (Jvm.Cond.instanceMethod ({ cls := "java/lang/Exception", name := "<init>", desc := "()V" } : Jvm.MethodName)) ∈ zAll := zT5 (List.mem_of_getElem? (i := 176) rfl) rfl
theorem zx32 : (Jvm.Cond.instanceMethod ({ cls := "java/lang/Exception", name := "<init>", desc := "()V" } : Jvm.MethodName)) ∈ zAll := zT5 (List.mem_of_getElem? (i := 176) rfl) rfl
theorem zx33 : (Jvm.Cond.code ({ cls := "java/lang/Exception", name := "<init>", desc := "()V" } : Jvm.MethodName) prog_16_method_1_code (1 : Nat) (Option.none : Option Jvm.ClassFile.FieldType)) ∈ zAll := zT5 (List.mem_of_getElem? (i := 177) rfl) rfl
theorem zx34 : (Jvm.Cond.methodLink "java/lang/Exception" (1 : Nat) ({ cls := "java/lang/Throwable", name := "<init>", desc := "()V" } : Jvm.MethodName)) ∈ zAll := zT5 (List.mem_of_getElem? (i := 178) rfl) rfl
theorem zx35 : (Jvm.Cond.instanceMethod ({ cls := "java/lang/Throwable", name := "<init>", desc := "()V" } : Jvm.MethodName)) ∈ zAll := zT5 (List.mem_of_getElem? (i := 153) rfl) rfl
theorem zx37 : (Jvm.Cond.methodLink "SampleHouse" (345 : Nat) ({ cls := "java/util/NoSuchElementException", name := "<init>", desc := "()V" } : Jvm.MethodName)) ∈ zAll := zT5 (List.mem_of_getElem? (i := 169) rfl) rfl
theorem zx38 : (Jvm.Cond.instantiable "java/util/NoSuchElementException" (6 : Nat)) ∈ zAll := zT5 (List.mem_of_getElem? (i := 131) rfl) rfl
theorem zx40 : (Jvm.Cond.selects "java/util/NoSuchElementException" ({ cls := "java/lang/Throwable", name := "fillInStackTrace", desc := "(I)Ljava/lang/Throwable;" } : Jvm.MethodName) ({ cls := "java/lang/Throwable", name := "fillInStackTrace", desc := "(I)Ljava/lang/Throwable;" } : Jvm.MethodName)) ∈ zAll := zT5 (List.mem_of_getElem? (i := 139) rfl) rfl
theorem zx41 : (Jvm.Cond.selects "java/util/NoSuchElementException" ({ cls := "java/lang/Throwable", name := "fillInStackTrace", desc := "()Ljava/lang/Throwable;" } : Jvm.MethodName) ({ cls := "java/lang/Throwable", name := "fillInStackTrace", desc := "()Ljava/lang/Throwable;" } : Jvm.MethodName)) ∈ zAll := zT5 (List.mem_of_getElem? (i := 140) rfl) rfl
theorem zx42 : (Jvm.Cond.lays "java/util/NoSuchElementException" "java/lang/Throwable" "cause" "Ljava/lang/Throwable;") ∈ zAll := zT5 (List.mem_of_getElem? (i := 141) rfl) rfl
theorem zx43 : (Jvm.Cond.lays "java/util/NoSuchElementException" "java/lang/Throwable" "stackTrace" "[Ljava/lang/StackTraceElement;") ∈ zAll := zT5 (List.mem_of_getElem? (i := 143) rfl) rfl
theorem zx44 : (Jvm.Cond.lays "java/util/NoSuchElementException" "java/lang/Throwable" "suppressedExceptions" "Ljava/util/List;") ∈ zAll := zT5 (List.mem_of_getElem? (i := 145) rfl) rfl
theorem zx45 : (Jvm.Cond.lays "java/util/NoSuchElementException" "java/lang/Throwable" "detailMessage" "Ljava/lang/String;") ∈ zAll := zT5 (List.mem_of_getElem? (i := 147) rfl) rfl
theorem zx46 : (Jvm.Cond.fieldLink "java/lang/Throwable" (198 : Nat) "java/lang/Throwable" "backtrace" "Ljava/lang/Object;") ∈ zAll := zT5 (List.mem_of_getElem? (i := 151) rfl) rfl
theorem zx47 : (Jvm.Cond.lays "java/lang/Throwable" "java/lang/Throwable" "backtrace" "Ljava/lang/Object;") ∈ zAll := zT5 (List.mem_of_getElem? (i := 150) rfl) rfl
theorem zx48 : (Jvm.Cond.lays "java/util/NoSuchElementException" "java/lang/Throwable" "backtrace" "Ljava/lang/Object;") ∈ zAll := zT5 (List.mem_of_getElem? (i := 149) rfl) rfl
theorem zy26 : (Jvm.Cond.declares ({ cls := "java/lang/RuntimeException", name := "<init>", desc := "()V" } : Jvm.MethodName)) ∈ lw_tbl := (show _ ∈ k2_sels lw_privs ++ tables_1 from List.mem_append_right _ (List.mem_append_right _ (List.mem_append_right _ (List.mem_append_right _ (List.mem_append_right _ (List.mem_append_left _ (List.mem_of_getElem? (i := 133) rfl)))))))
theorem zy31 : (Jvm.Cond.declares ({ cls := "java/lang/Exception", name := "<init>", desc := "()V" } : Jvm.MethodName)) ∈ lw_tbl := (show _ ∈ k2_sels lw_privs ++ tables_1 from List.mem_append_right _ (List.mem_append_right _ (List.mem_append_right _ (List.mem_append_right _ (List.mem_append_right _ (List.mem_append_left _ (List.mem_of_getElem? (i := 135) rfl)))))))
theorem zy36 : (Jvm.Cond.declares ({ cls := "java/lang/Throwable", name := "<init>", desc := "()V" } : Jvm.MethodName)) ∈ lw_tbl := (show _ ∈ k2_sels lw_privs ++ tables_1 from List.mem_append_right _ (List.mem_append_right _ (List.mem_append_right _ (List.mem_append_right _ (List.mem_append_right _ (List.mem_append_left _ (List.mem_of_getElem? (i := 137) rfl)))))))
theorem zy39 : (Jvm.Cond.castable "java/util/NoSuchElementException" "java/util/NoSuchElementException") ∈ lw_tbl := (show _ ∈ k2_sels lw_privs ++ tables_1 from List.mem_append_right _ (List.mem_append_right _ (List.mem_append_right _ (List.mem_append_right _ (List.mem_append_right _ (List.mem_append_left _ (List.mem_of_getElem? (i := 132) rfl)))))))
theorem zcw_view : (Jvm.Cond.codeWith ({ cls := "SampleHouseLaw", name := "view", desc := "(LSampleHouse;III[J)I" } : Jvm.MethodName) method_3_code (6 : Nat) (Option.some Jvm.ClassFile.FieldType.int) [((0 : Nat), (12 : Nat), (15 : Nat), (13 : Nat))]) ∈ zAll := zT5 (List.mem_of_getElem? (i := 124) rfl) rfl
theorem zcw_set : (Jvm.Cond.codeWith ({ cls := "SampleHouseLaw", name := "set", desc := "(LSampleHouse;III[J)I" } : Jvm.MethodName) method_4_code (6 : Nat) (Option.some Jvm.ClassFile.FieldType.int) [((0 : Nat), (12 : Nat), (15 : Nat), (13 : Nat))]) ∈ zAll := zT5 (List.mem_of_getElem? (i := 195) rfl) rfl
/-- the words of a throw that no reader of steady words carries -/
abbrev xE : String := "java/util/NoSuchElementException"
def xTH (U : State) : Prop := va_Nw (.castable xE xE) U ∧ va_Nw (.declares ⟨"java/lang/RuntimeException", "<init>", "()V"⟩) U ∧ va_Nw (.declares ⟨"java/lang/Exception", "<init>", "()V"⟩) U ∧ va_Nw (.declares ⟨"java/lang/Throwable", "<init>", "()V"⟩) U
theorem xTH.warm {s U : State} (hW : s.WarmedH U.vm) (h : xTH s) : xTH U := ⟨va_Nw.warmC hW h.1, va_Nw.warmD hW h.2.1, va_Nw.warmD hW h.2.2.1, va_Nw.warmD hW h.2.2.2⟩
theorem xTH.same {u U : State} (h : u.vm = U.vm) (hN : xTH u) : xTH U := ⟨va_Nw.vm rfl h hN.1, va_Nw.vm rfl h hN.2.1, va_Nw.vm rfl h hN.2.2.1, va_Nw.vm rfl h hN.2.2.2⟩
/-- the two statics that a throw reads -/
def xZ (A : Nat → Prop) (U : State) (H : Heap) : Prop := vx_Zq Bundle.tN "UNASSIGNED_STACK" Bundle.steD A U H ∧ vx_Zq Bundle.tN "SUPPRESSED_SENTINEL" Bundle.listD A U H
theorem xZ.moved {A : Nat → Prop} {u U : State} {H : Heap} (hvm : u.vm.Alike U.vm) (h : xZ A u H) : xZ A U H := ⟨vx_Zq.moved hvm h.1, vx_Zq.moved hvm h.2⟩
theorem xZ.kept {A : Nat → Prop} {U : State} {H H1 : Heap} (h : xZ A U H) (hq : ∀ a : Nat, a < H.size → ¬ A a → H1[a]? = H[a]?) : xZ A U H1 := ⟨h.1.kept hq, h.2.kept hq⟩
theorem xZ.narrow {A B : Nat → Prop} {U : State} {H : Heap} (h : xZ A U H) (hAB : ∀ q, B q → A q) : xZ B U H := ⟨h.1.narrow hAB, h.2.narrow hAB⟩
def xPcX (D : va_G) (cs : Nat → ClassId) (av : List Value) (w : va_W) (sz : Nat) : Array Value → State → Prop := fun a U => xPc D cs av w sz a U ∧ xTH U ∧ xZ (va_A w sz) U U.heap
theorem xFrameBlindX {D : va_G} {cs : Nat → ClassId} {av : List Value} {w : va_W} {sz : Nat} : FrameBlind (xPcX D cs av w sz) := fun a U g mk q => by
  obtain ⟨q1, q2, q3⟩ := q
  exact ⟨xFrameBlind a U g mk q1, xTH.same rfl q2, xZ.moved (u := U) (U := U.calling g mk a) (Vm.Alike.refl U.vm) q3⟩
/-- where a method has thrown: what it knows of it -/
def xXC (px : Prop) (A : Nat → Prop) : String → State → State → Prop := vx_X (fun _ : Unit => px) (fun E _ _ => E = xE) A
def xMetX (l : Launch) (D : va_G) (cs : Nat → ClassId) (y : MethodName) (cc : ByteArray) (nL : Nat) (ret : Option FieldType) (rm : Room) (av : List Value) (w : va_W) (Qk : xQT) (px : Prop) : Prop :=
  ∀ sz : Nat, vx_Met l y (xws y cc nL ret) rm (xPcX D cs av w sz) (Qk (va_A w sz)) (xXC px (va_A w sz)) rm.cells rm.slots (va_A w sz)
theorem xMetX.intro {l : Launch} {D : va_G} {cs : Nat → ClassId} {y : MethodName} {cc : ByteArray} {nL : Nat} {ret : Option FieldType} {rm : Room} {av : List Value} {w : va_W} {Qk : xQT} {px : Prop} (hy : plainName y.cls = true) (hn : (lg_sl av).length ≤ nL)
    (body : ∀ (p : Program) (e : Env) (s : State) (m : MethodId) (args : Array Value) (below : List Frame) (meth : Method) (c : Code) (A : Nat → Prop) (ls : Array Slot), xC p rm s m args meth c y cc nL ret D cs A → (∀ x ∈ c.exceptionTable.toList, False) → xTH s → xZ A s s.heap → va_P D vwCl w s.heap → va_D A w → va_S A s.heap s.heap [] → lv_has ls nL (lv_args 0 av) →
      W p l e rm s m args below meth c s.heap [] 0 0 (vx_MQ below (Qk A) (xXC px A) args s rm.cells rm.slots A) (F0 m 0 ls [])) : xMetX l D cs y cc nL ret rm av w Qk px := by
  intro sz
  refine vx_ofW (cc := cc) (maxL := nL) (ret := ret) hy rfl ?_
  intro p e s m args below meth c s₁ B hml hTab hv
  obtain ⟨⟨rfl, hsz, hP, hK, hD0⟩, hTH, hZ⟩ := hv
  have hts := atoms_spec (ws := xws y cc nL ret) B.pre
  have hown : s.vm.findClass y.cls = some m.cls := findClass_of_methodNamed B.named
  have hin : meth.name = y.name := (name_of_methodNamed B.named B.method).1
  subst hsz
  have hl := lv_entry av (n := nL) hn
  rw [lg_entry_eq]
  exact body p e s m av.toArray below meth c (va_A w s.heap.size) _ ⟨B.exec, B.bytes, hml, hown, fun w h => hts w (List.mem_cons_of_mem _ h), B.returns, B.notSynchronized, hin, hK, fun q h => Or.inr h⟩ hTab hTH hZ hP hD0.self va_S.rf hl
/-- a method with handlers, that returns -/
def xMetH (l : Launch) (D : va_G) (cs : Nat → ClassId) (y : MethodName) (cc : ByteArray) (nL : Nat) (ret : Option FieldType) (hh : List (Nat × Nat × Nat × Nat)) (rm : Room) (av : List Value) (w : va_W) (Qk : xQT) : Prop :=
  ∀ sz : Nat, Met l y (.codeWith y cc nL ret hh :: zAll) rm (xPcX D cs av w sz) (Qk (va_A w sz)) rm.cells rm.slots (va_A w sz)
theorem xMetH.intro {l : Launch} {D : va_G} {cs : Nat → ClassId} {y : MethodName} {cc : ByteArray} {nL : Nat} {ret : Option FieldType} {hh : List (Nat × Nat × Nat × Nat)} {rm : Room} {av : List Value} {w : va_W} {Qk : xQT} (hy : plainName y.cls = true) (hn : (lg_sl av).length ≤ nL)
    (body : ∀ (p : Program) (e : Env) (s : State) (m : MethodId) (args : Array Value) (below : List Frame) (meth : Method) (c : Code) (A : Nat → Prop) (ls : Array Slot), xC p rm s m args meth c y cc nL ret D cs A → c.exceptionTable.toList = tableOf hh → xTH s → xZ A s s.heap → va_P D vwCl w s.heap → va_D A w → va_S A s.heap s.heap [] → lv_has ls nL (lv_args 0 av) →
      W p l e rm s m args below meth c s.heap [] 0 0 (MQ below (Qk A) args s rm.cells rm.slots A) (F0 m 0 ls [])) : xMetH l D cs y cc nL ret hh rm av w Qk := by
  intro sz
  refine MetFree.of_bodyS (code := cc) (maxLocals := nL) (ret := ret) hy ?_ ?_
  · intro args s m h hn
    obtain ⟨m9, meth, c, hn9, h1, h2, h3, h4, -, h5, h6, -⟩ := Cond.codeWith_spec (atoms_spec (ws := .codeWith y cc nL ret hh :: zAll) h _ List.mem_cons_self)
    cases hn.symm.trans hn9
    exact ⟨meth, c, h1, h2, h3, h4, h5, h6⟩
  · intro p e s m args below meth c s₁ B hml hv _
    have hh0 : s₁.heap = s.heap := by rw [B.state]; rfl
    obtain ⟨⟨rfl, hsz, hP, hK, hD0⟩, hTH, hZ⟩ := hv
    have hts := atoms_spec (ws := .codeWith y cc nL ret hh :: zAll) B.pre
    have hown : s.vm.findClass y.cls = some m.cls := findClass_of_methodNamed B.named
    have hin : meth.name = y.name := (name_of_methodNamed B.named B.method).1
    have hTab := vx_table (x := y) (hh := hh) B (hts _ List.mem_cons_self)
    subst hsz
    have hl := lv_entry av (n := nL) hn
    have K := body p e s m av.toArray below meth c (va_A w s.heap.size) _ ⟨B.exec, B.bytes, hml, hown, fun w h => hts w (List.mem_cons_of_mem _ h), B.returns, B.notSynchronized, hin, hK, fun q h => Or.inr h⟩ hTab hTH hZ hP hD0.self va_S.rf hl
    rw [← lg_entry_eq] at K
    obtain ⟨t, a1, o, b1, b2, b3⟩ := K s₁ hh0 (Stand.of_body B)
    exact ⟨t, o, a1, b1, b2, ⟨b3.1, b3.2⟩⟩

def xThr : List Cond := [(Jvm.Cond.initialized "java/lang/Throwable"), (Jvm.Cond.superclass "java/lang/Throwable" "java/lang/Object"), (Jvm.Cond.instanceMethod ({ cls := "java/lang/Throwable", name := "fillInStackTrace", desc := "()Ljava/lang/Throwable;" } : Jvm.MethodName)), (Jvm.Cond.codeSync ({ cls := "java/lang/Throwable", name := "fillInStackTrace", desc := "()Ljava/lang/Throwable;" } : Jvm.MethodName) prog_23_method_18_code (1 : Nat) (Option.some (Jvm.ClassFile.FieldType.object "java/lang/Throwable"))), (Jvm.Cond.instanceMethod ({ cls := "java/lang/Throwable", name := "fillInStackTrace", desc := "(I)Ljava/lang/Throwable;" } : Jvm.MethodName)), (Jvm.Cond.native ({ cls := "java/lang/Throwable", name := "fillInStackTrace", desc := "(I)Ljava/lang/Throwable;" } : Jvm.MethodName)), (Jvm.Cond.instanceMethod ({ cls := "java/lang/Throwable", name := "<init>", desc := "()V" } : Jvm.MethodName)), (Jvm.Cond.code ({ cls := "java/lang/Throwable", name := "<init>", desc := "()V" } : Jvm.MethodName) prog_23_method_1_code (1 : Nat) (Option.none : Option Jvm.ClassFile.FieldType)), (Jvm.Cond.instanceMethod ({ cls := "java/lang/Object", name := "<init>", desc := "()V" } : Jvm.MethodName)), (Jvm.Cond.code ({ cls := "java/lang/Object", name := "<init>", desc := "()V" } : Jvm.MethodName) object_method_1_code (1 : Nat) (Option.none : Option Jvm.ClassFile.FieldType)), (Jvm.Cond.methodLink "java/lang/Throwable" (1 : Nat) ({ cls := "java/lang/Object", name := "<init>", desc := "()V" } : Jvm.MethodName)), (Jvm.Cond.methodLink "java/lang/Throwable" (27 : Nat) ({ cls := "java/lang/Throwable", name := "fillInStackTrace", desc := "()Ljava/lang/Throwable;" } : Jvm.MethodName)), (Jvm.Cond.methodLink "java/lang/Throwable" (202 : Nat) ({ cls := "java/lang/Throwable", name := "fillInStackTrace", desc := "(I)Ljava/lang/Throwable;" } : Jvm.MethodName)), (Jvm.Cond.fieldLink "java/lang/Throwable" (7 : Nat) "java/lang/Throwable" "cause" "Ljava/lang/Throwable;"), (Jvm.Cond.lays "java/lang/Throwable" "java/lang/Throwable" "cause" "Ljava/lang/Throwable;"), (Jvm.Cond.fieldLink "java/lang/Throwable" (17 : Nat) "java/lang/Throwable" "stackTrace" "[Ljava/lang/StackTraceElement;"), (Jvm.Cond.lays "java/lang/Throwable" "java/lang/Throwable" "stackTrace" "[Ljava/lang/StackTraceElement;"), (Jvm.Cond.fieldLink "java/lang/Throwable" (24 : Nat) "java/lang/Throwable" "suppressedExceptions" "Ljava/util/List;"), (Jvm.Cond.lays "java/lang/Throwable" "java/lang/Throwable" "suppressedExceptions" "Ljava/util/List;"), (Jvm.Cond.fieldLink "java/lang/Throwable" (13 : Nat) "java/lang/Throwable" "UNASSIGNED_STACK" "[Ljava/lang/StackTraceElement;"), (Jvm.Cond.fieldLink "java/lang/Throwable" (20 : Nat) "java/lang/Throwable" "SUPPRESSED_SENTINEL" "Ljava/util/List;"), (Jvm.Cond.lays "java/lang/Throwable" "java/lang/Throwable" "detailMessage" "Ljava/lang/String;"), (Jvm.Cond.instanceMethod ({ cls := "java/util/NoSuchElementException", name := "<init>", desc := "()V" } : Jvm.MethodName)), (Jvm.Cond.code ({ cls := "java/util/NoSuchElementException", name := "<init>", desc := "()V" } : Jvm.MethodName) prog_25_method_1_code (1 : Nat) (Option.none : Option Jvm.ClassFile.FieldType)), (Jvm.Cond.methodLink "java/util/NoSuchElementException" (1 : Nat) ({ cls := "java/lang/RuntimeException", name := "<init>", desc := "()V" } : Jvm.MethodName)), (Jvm.Cond.instanceMethod ({ cls := "java/lang/RuntimeException", name := "<init>", desc := "()V" } : Jvm.MethodName)), (Jvm.Cond.declares ({ cls := "java/lang/RuntimeException", name := "<init>", desc := "()V" } : Jvm.MethodName)), (Jvm.Cond.instanceMethod ({ cls := "java/lang/RuntimeException", name := "<init>", desc := "()V" } : Jvm.MethodName)), (Jvm.Cond.code ({ cls := "java/lang/RuntimeException", name := "<init>", desc := "()V" } : Jvm.MethodName) prog_21_method_1_code (1 : Nat) (Option.none : Option Jvm.ClassFile.FieldType)), (Jvm.Cond.methodLink "java/lang/RuntimeException" (1 : Nat) ({ cls := "java/lang/Exception", name := "<init>", desc := "()V" } : Jvm.MethodName)), (Jvm.Cond.instanceMethod ({ cls := "java/lang/Exception", name := "<init>", desc := "()V" } : Jvm.MethodName)), (Jvm.Cond.declares ({ cls := "java/lang/Exception", name := "<init>", desc := "()V" } : Jvm.MethodName)), (Jvm.Cond.instanceMethod ({ cls := "java/lang/Exception", name := "<init>", desc := "()V" } : Jvm.MethodName)), (Jvm.Cond.code ({ cls := "java/lang/Exception", name := "<init>", desc := "()V" } : Jvm.MethodName) prog_16_method_1_code (1 : Nat) (Option.none : Option Jvm.ClassFile.FieldType)), (Jvm.Cond.methodLink "java/lang/Exception" (1 : Nat) ({ cls := "java/lang/Throwable", name := "<init>", desc := "()V" } : Jvm.MethodName)), (Jvm.Cond.instanceMethod ({ cls := "java/lang/Throwable", name := "<init>", desc := "()V" } : Jvm.MethodName)), (Jvm.Cond.declares ({ cls := "java/lang/Throwable", name := "<init>", desc := "()V" } : Jvm.MethodName)), (Jvm.Cond.methodLink "SampleHouse" (345 : Nat) ({ cls := "java/util/NoSuchElementException", name := "<init>", desc := "()V" } : Jvm.MethodName)), (Jvm.Cond.instantiable "java/util/NoSuchElementException" (6 : Nat)), (Jvm.Cond.castable "java/util/NoSuchElementException" "java/util/NoSuchElementException"), (Jvm.Cond.selects "java/util/NoSuchElementException" ({ cls := "java/lang/Throwable", name := "fillInStackTrace", desc := "(I)Ljava/lang/Throwable;" } : Jvm.MethodName) ({ cls := "java/lang/Throwable", name := "fillInStackTrace", desc := "(I)Ljava/lang/Throwable;" } : Jvm.MethodName)), (Jvm.Cond.selects "java/util/NoSuchElementException" ({ cls := "java/lang/Throwable", name := "fillInStackTrace", desc := "()Ljava/lang/Throwable;" } : Jvm.MethodName) ({ cls := "java/lang/Throwable", name := "fillInStackTrace", desc := "()Ljava/lang/Throwable;" } : Jvm.MethodName)), (Jvm.Cond.lays "java/util/NoSuchElementException" "java/lang/Throwable" "cause" "Ljava/lang/Throwable;"), (Jvm.Cond.lays "java/util/NoSuchElementException" "java/lang/Throwable" "stackTrace" "[Ljava/lang/StackTraceElement;"), (Jvm.Cond.lays "java/util/NoSuchElementException" "java/lang/Throwable" "suppressedExceptions" "Ljava/util/List;"), (Jvm.Cond.lays "java/util/NoSuchElementException" "java/lang/Throwable" "detailMessage" "Ljava/lang/String;"), (Jvm.Cond.fieldLink "java/lang/Throwable" (198 : Nat) "java/lang/Throwable" "backtrace" "Ljava/lang/Object;"), (Jvm.Cond.lays "java/lang/Throwable" "java/lang/Throwable" "backtrace" "Ljava/lang/Object;"), (Jvm.Cond.lays "java/util/NoSuchElementException" "java/lang/Throwable" "backtrace" "Ljava/lang/Object;")]
theorem xThr_eq : vx_at0 "SampleHouse" 345 xE ["java/lang/RuntimeException", "java/lang/Exception"] = xThr := by rfl
theorem xThr_ot : ∀ w ∈ (.classLink "SampleHouse" 343 xE : Cond) :: .initialized xE :: xThr, vx_ot w = true := by
  have h : ((.classLink "SampleHouse" 343 xE : Cond) :: .initialized xE :: xThr).all vx_ot = true := by decide +kernel
  exact List.all_eq_true.mp h
theorem xThr_all {s : State} {args : Array Value} (hz : ∀ w ∈ zAll, w.before args s = true) (hTH : xTH s) : ∀ w ∈ xThr, w.before args s = true := List.forall_mem_cons.mpr ⟨hz _ zx0, List.forall_mem_cons.mpr ⟨hz _ zx1, List.forall_mem_cons.mpr ⟨hz _ zx2, List.forall_mem_cons.mpr ⟨hz _ zx3, List.forall_mem_cons.mpr ⟨hz _ zx4, List.forall_mem_cons.mpr ⟨hz _ zx5, List.forall_mem_cons.mpr ⟨hz _ zx6, List.forall_mem_cons.mpr ⟨hz _ zx7, List.forall_mem_cons.mpr ⟨hz _ zx8, List.forall_mem_cons.mpr ⟨hz _ zx9, List.forall_mem_cons.mpr ⟨hz _ zx10, List.forall_mem_cons.mpr ⟨hz _ zx11, List.forall_mem_cons.mpr ⟨hz _ zx12, List.forall_mem_cons.mpr ⟨hz _ zx13, List.forall_mem_cons.mpr ⟨hz _ zx14, List.forall_mem_cons.mpr ⟨hz _ zx15, List.forall_mem_cons.mpr ⟨hz _ zx16, List.forall_mem_cons.mpr ⟨hz _ zx17, List.forall_mem_cons.mpr ⟨hz _ zx18, List.forall_mem_cons.mpr ⟨hz _ zx19, List.forall_mem_cons.mpr ⟨hz _ zx20, List.forall_mem_cons.mpr ⟨hz _ zx21, List.forall_mem_cons.mpr ⟨hz _ zx22, List.forall_mem_cons.mpr ⟨hz _ zx23, List.forall_mem_cons.mpr ⟨hz _ zx24, List.forall_mem_cons.mpr ⟨hz _ zx25, List.forall_mem_cons.mpr ⟨va_Nw.use rfl hTH.2.1, List.forall_mem_cons.mpr ⟨hz _ zx27, List.forall_mem_cons.mpr ⟨hz _ zx28, List.forall_mem_cons.mpr ⟨hz _ zx29, List.forall_mem_cons.mpr ⟨hz _ zx30, List.forall_mem_cons.mpr ⟨va_Nw.use rfl hTH.2.2.1, List.forall_mem_cons.mpr ⟨hz _ zx32, List.forall_mem_cons.mpr ⟨hz _ zx33, List.forall_mem_cons.mpr ⟨hz _ zx34, List.forall_mem_cons.mpr ⟨hz _ zx35, List.forall_mem_cons.mpr ⟨va_Nw.use rfl hTH.2.2.2, List.forall_mem_cons.mpr ⟨hz _ zx37, List.forall_mem_cons.mpr ⟨hz _ zx38, List.forall_mem_cons.mpr ⟨va_Nw.use rfl hTH.1, List.forall_mem_cons.mpr ⟨hz _ zx40, List.forall_mem_cons.mpr ⟨hz _ zx41, List.forall_mem_cons.mpr ⟨hz _ zx42, List.forall_mem_cons.mpr ⟨hz _ zx43, List.forall_mem_cons.mpr ⟨hz _ zx44, List.forall_mem_cons.mpr ⟨hz _ zx45, List.forall_mem_cons.mpr ⟨hz _ zx46, List.forall_mem_cons.mpr ⟨hz _ zx47, List.forall_mem_cons.mpr ⟨hz _ zx48, fun _ h => absurd h List.not_mem_nil⟩⟩⟩⟩⟩⟩⟩⟩⟩⟩⟩⟩⟩⟩⟩⟩⟩⟩⟩⟩⟩⟩⟩⟩⟩⟩⟩⟩⟩⟩⟩⟩⟩⟩⟩⟩⟩⟩⟩⟩⟩⟩⟩⟩⟩⟩⟩⟩⟩

section XTHROW
variable {p : Program} {l : Launch} {e : Env} {R : Room} {s : State} {m : MethodId} {args : Array Value} {below : List Frame} {meth : Method} {c : Code} {H : Heap} {locs : List Loc} {cells slots : Nat} {Q : State → Prop}
variable {cc cc2 : ByteArray} {y y2 : MethodName} {nL nL2 pc i n mc ms : Nat} {ret ret2 : Option FieldType} {D : va_G} {cs : Nat → ClassId} {A : Nat → Prop} {ls : Array Slot} {rest st0 : List Value} {ws wc wr : va_W} {Qk : xQT} {As : List Value} {b : Nat} {rm : Room} {px : Prop}
/-- throw new NoSuchElementException() -/
theorem xthrow {Qc : Array Value → State → Outcome → State → Prop} (C : xC p R s m args meth c y cc nL ret D cs A) (hTab : ∀ x ∈ c.exceptionTable.toList, False) (hTH : xTH s) (hZ : xZ A s s.heap) (hfl : l.stackTraces = false) (hy : y.cls = "SampleHouse") (hS : va_S A s.heap H locs) (hsize : ls.size = nL) (hpx : px)
    (d0 : decode cc pc = .ok (.new 343, 3)) (d3 : decode cc (pc + 3) = .ok (.dup, 1)) (d4 : decode cc (pc + 4) = .ok (.invokespecial 345, 3)) (d7 : decode cc (pc + 7) = .ok (.athrow, 1))
    (hR1 : 5 < R.frames) (hR2 : 81 ≤ R.locals) (hR3 : cells + 1 ≤ R.cells) (hR4 : slots + 6 ≤ R.slots) (hc : cells + 1 ≤ mc) (hs : slots + 6 ≤ ms) :
    W p l e R s m args below meth c H locs cells slots (vx_MQ below Qc (xXC px A) args s mc ms A) (F0 m pc ls []) := by
  obtain ⟨hx, hb, hml, hown, hz, hr, hlo, hnm, hK, hA⟩ := C
  refine vx_throw0 (own := "SampleHouse") (cls := xE) (names := ["java/lang/RuntimeException", "java/lang/Exception"]) (ik := 343) (ic := 345) (A := A) hx hb hfl (by rw [← hy]; exact hown) (by decide +kernel) (fun n hn => ?_) (hz _ zw5_130) (hz _ zw1_23) (fun w hw => xThr_all hz hTH w (by rw [← xThr_eq]; exact hw)) (fun w hw => xThr_ot w (by rw [← xThr_eq]; exact hw)) hZ.1 hZ.2 hS (hsize.trans hml.symm) d0 d3 d4 d7 (fun x hx => (hTab x hx).elim) hR1 (by show 0 + _ ≤ _; exact Nat.le_trans (Nat.le_of_ble_eq_true rfl) hR2) hR3 hR4 hlo (fun t hal hsz hq => ⟨(), hpx, rfl, Nat.le_trans hS.1 hsz, fun q h1 h2 => (hq q (Nat.lt_of_lt_of_le h1 hS.1)).trans (hS.2.1 q h1 h2)⟩) hS.2.2 hc hs
  rcases List.mem_cons.mp hn with rfl | hn
  · decide +kernel
  · rcases List.mem_cons.mp hn with rfl | hn
    · decide +kernel
    · cases hn
theorem xpreX (hK : xK D cs s) (hTH : xTH s) (hZ : xZ (va_A wc H.size) s H) (hP : va_P D vwCl ws H) (hD : va_D A ws) (isC : List Nat) (hC : isC.map (fun i => ws[i]?) = wc.map some) (hn : va_nd isC = true) : ∀ U : State, U.heap = H → s.WarmedH U.vm → xPcX D cs As wc H.size As.toArray U := fun U hU hW =>
  ⟨xpre hK hP hD isC hC hn U hU hW, xTH.warm hW hTH, by rw [hU]; exact xZ.moved hW.alike hZ⟩
/-- a call of a method that may throw -/
theorem xVX (C : xC p R s m args meth c y cc nL ret D cs A) (hM : xMetX l D cs y2 cc2 nL2 ret2 rm (.ref b :: As) wc Qk px) (L : xLV y.cls i y2 cc2 nL2 ret2 n) (hTH : xTH s) (hZ : xZ A s s.heap) (hS : va_S A s.heap H locs) (hP : va_P D vwCl ws H) (hD : va_D A ws) (isC : List Nat) (hC : isC.map (fun i => ws[i]?) = wc.map some) (hn : va_nd isC = true) (q0 : Nat) {ci : Nat} {q : vw_C} {fs : List Value} (he : wc[q0]? = some (b, .inr (ci, fs))) (hc : vwCl[ci]? = some q) (hcl : q.1 = y2.cls)
    (hR : rm.frames + 1 ≤ R.frames ∧ 8 + (nL2 + 11) + rm.locals ≤ R.locals) (hAs : As.length = n) (hsize : ls.size = nL) (hst : st0 = As.reverse ++ .ref b :: rest) (hro : (rest.map fun v => v.category).sum ≤ 8) (hdg : decode cc pc = .ok (.invokevirtual i, 3)) (hf : cells + rm.cells ≤ R.cells ∧ slots + rm.slots ≤ R.slots) :
    vx_Run p l e R s m args below meth c H locs cells slots rm.cells rm.slots (F0 m pc ls st0) rest (Qk (va_A wc H.size) (Value.ref b :: As).toArray) (xXC px (va_A wc H.size)) (va_A wc H.size) := by
  obtain ⟨hx, hb, hml, hown, hz, hr, hlo, hnm, hK, hA⟩ := C
  obtain ⟨⟨L1, L2, L3, L4⟩, L5, L6⟩ := L
  have hG := xGood L1
  have hZ1 : xZ (va_A wc H.size) s H := (hZ.kept (fun a h1 h2 => hS.2.1 a h1 h2)).narrow (fun q h => va_free hD hS hA isC hC q h)
  refine vx_runV (Ts := zAll) (own := y.cls) (C := y2.cls) (As := As) (rest := rest) ⟨hx, hb, hml, hown, hz⟩ (hM H.size) (n := n) (index := i) (bytes := cc2) (maxL := nL2) (ret := ret2) ⟨callB_of n hz hG rfl rfl rfl (hz _ L2) (hz _ L3) L4 hR, hz _ L5, hz _ L6⟩ ⟨xFrameBlindX, ?_, xpreX hK hTH hZ1 hP hD isC hC hn⟩ rfl hAs hsize hst (lv_room hro) hdg hf
  obtain ⟨cell, g1, g2, g3⟩ := va_recv hK.1 (xP_map hP isC hC) hc he
  exact ⟨cell, g1, g2, by rw [← hcl]; exact g3⟩
theorem xP_nil : va_P D vwCl [] H := fun k q h => by simp at h
theorem xD_nil : va_D A [] := ⟨fun i j p q h => by simp at h, fun k q h => by simp at h⟩
variable {a0 : Array Value}
theorem xiX {S : Type} {post : Int32 → S → Prop} {Wd : S → va_W} (hr : vx_Run p l e R s m args below meth c H locs cells slots mc ms (F0 m pc ls st0) rest (xQi D post Wd (va_A wc H.size) a0) (xXC px (va_A wc H.size)) (va_A wc H.size)) (hP : va_P D vwCl ws H) (hD : va_D A ws) (hS : va_S A s.heap H locs) (hA : ∀ q, s.heap.size ≤ q → A q) (isC isR : List Nat) (hC : isC.map (fun i => ws[i]?) = wc.map some) (hR : isR.map (fun i => ws[i]?) = wr.map some) (hn : va_nd isR = true) (hdis : ∀ i ∈ isR, i ∉ isC)
    (kx : ∀ (q9 : Nat) (ce : Cell) (H1 : Heap) (locs1 : List Loc), px → va_P D vwCl wr H1 → va_D A wr → va_S A s.heap H1 locs1 → H1[q9]? = some ce → ce.vm = .none → s.vm.findClass xE = some ce.cls → vx_W p l e R s m args below meth c H1 locs1 (cells + mc) (slots + ms) Q (F0 m pc ls rest) q9)
    (kk : ∀ (r : Int32) (u : S) (H1 : Heap) (locs1 : List Loc), post r u → va_P D vwCl (wr ++ Wd u) H1 → va_D A (wr ++ Wd u) → va_S A s.heap H1 locs1 → W p l e R s m args below meth c H1 locs1 (cells + mc) (slots + ms) Q (F0 m (pc + 3) ls (.int r :: rest))) : W p l e R s m args below meth c H locs cells slots Q (F0 m pc ls st0) := by
  have hF := va_free hD hS hA isC hC
  refine vx_calli (S := S) (SX := Unit) hr hS (fun q _ h => hF q h) hF (fun q _ h => hF q h) (fun E ce q9 u t H1 locs1 ht hvm hw hB hz1 hk1 hS1 hce hcv hcl => ?_) (fun r u t H1 locs1 ht hvm hw hB hz1 hk1 hS1 => ?_)
  · cases hB
    obtain ⟨hP2, hD2⟩ := va_join (wr := wr) (w1 := []) hP hD isC isR hC hR hn hdis hk1 hF xP_nil xD_nil
    rw [List.append_nil] at hP2 hD2
    exact kx q9 ce H1 locs1 hw hP2 hD2 hS1 hce hcv hcl
  · obtain ⟨hP1, hD1⟩ := hB
    rw [ht] at hP1
    obtain ⟨hP2, hD2⟩ := va_join (wr := wr) hP hD isC isR hC hR hn hdis hk1 hF hP1 hD1
    exact kk r u H1 locs1 hw hP2 hD2 hS1
/-- a static call of a method with handlers -/
theorem xSH {hh : List (Nat × Nat × Nat × Nat)} (C : xC p R s m args meth c y cc nL ret D cs A) (hM : xMetH l D cs y2 cc2 nL2 ret2 hh rm As wc Qk) (Lc : Cond.codeWith y2 cc2 nL2 ret2 hh ∈ zAll) (Li : Cond.initialized y2.cls ∈ zAll) (Ll : Cond.methodLink y.cls i y2 ∈ zAll) (Ls : Cond.static y2 ∈ zAll) (Ld : y2.cls ≠ "java/lang/invoke/MethodHandle" ∧ y2.cls ≠ "java/lang/invoke/VarHandle" ∧ (parseMethodDescriptor y2.desc).map (fun d => d.parameters.length) = some n) (hTH : xTH s) (hZ : xZ A s s.heap) (hS : va_S A s.heap H locs) (hP : va_P D vwCl ws H) (hD : va_D A ws) (isC : List Nat) (hC : isC.map (fun i => ws[i]?) = wc.map some) (hn : va_nd isC = true)
    (hR : rm.frames + 1 ≤ R.frames ∧ 8 + (nL2 + 11) + rm.locals ≤ R.locals) (hAs : As.length = n) (hsize : ls.size = nL) (hst : st0 = As.reverse ++ rest) (hro : (rest.map fun v => v.category).sum ≤ 8) (hdg : decode cc pc = .ok (.invokestatic i, 3)) (hf : cells + rm.cells ≤ R.cells ∧ slots + rm.slots ≤ R.slots) :
    va_Run p l e R s m args below meth c H locs cells slots rm.cells rm.slots (F0 m pc ls st0) rest (Qk (va_A wc H.size) As.toArray) (va_A wc H.size) := by
  obtain ⟨hx, hb, hml, hown, hz, hr, hlo, hnm, hK, hA⟩ := C
  have hZ1 : xZ (va_A wc H.size) s H := (hZ.kept (fun a h1 h2 => hS.2.1 a h1 h2)).narrow (fun q h => va_free hD hS hA isC hC q h)
  have hG : GoodIn zAll (va_wsS y.cls i y2 (.codeWith y2 cc2 nL2 ret2 hh :: zAll)) := by
    intro w hw
    have h1 : ∀ w ∈ zAll, w ∈ zAll ∧ ((w.onTables && w.keeps) = true ∨ ∃ ty, w = .arrayClass ty) := fun w h => ⟨h, good_of_word (zAll_good _ h)⟩
    rcases List.mem_append.mp hw with hw | hw
    · rcases List.mem_cons.mp hw with rfl | hw
      · exact h1 _ Ll
      · rcases List.mem_cons.mp hw with rfl | hw
        · exact h1 _ Ls
        · rcases List.mem_cons.mp hw with rfl | hw
          · exact h1 _ Li
          · cases hw
    · rcases List.mem_cons.mp hw with rfl | hw
      · exact h1 _ Lc
      · exact h1 _ hw
  exact vx_runSW (Ts := zAll) (own := y.cls) (As := As) (rest := rest) ⟨hx, hb, hml, hown, hz⟩ (hM H.size) (vx_cwSW n hz hG rfl rfl rfl Ld hR) ⟨xFrameBlindX, xpreX hK hTH hZ1 hP hD isC hC hn⟩ rfl hAs hsize hst (lv_room hro) hdg hf
end XTHROW
