/-! One frame for all contracts: fixed classes of arrays, one list of words, worlds as lists. -/
/-- the arrays' classes, by number -/
abbrev xTY (cs : Nat → ClassId) : List (ClassId × FieldType) := [(cs 0, .int), (cs 1, .long), (cs 2, .object "SampleHouse$View"), (cs 3, .object "SampleHouse$Group"), (cs 4, .object "SampleHouse$Fraction"), (cs 5, .array .int), (cs 6, .array .long)]
/-- the four links to private constructors of nest mates, and the classes of arrays that anewarray makes -/
def xN (U : State) : Prop := (va_Nw (.methodLinkNest "SampleHouse" 25 ⟨"SampleHouse$Graph", "<init>", "()V"⟩ "SampleHouse") U ∧ va_Nw (.methodLinkNest "SampleHouse$Group" 27 ⟨"SampleHouse$View", "<init>", "()V"⟩ "SampleHouse") U ∧ va_Nw (.methodLinkNest "SampleHouse$Layers" 67 ⟨"SampleHouse$States", "<init>", "()V"⟩ "SampleHouse") U ∧ va_Nw (.methodLinkNest "SampleHouse$Search" 65 ⟨"SampleHouse$States", "<init>", "()V"⟩ "SampleHouse") U) ∧ (va_AO "SampleHouse$View" U ∧ va_AO "SampleHouse$Group" U ∧ va_AO "SampleHouse$Fraction" U ∧ va_AOA .int U ∧ va_AOA .long U)
def xK (D : va_G) (cs : Nat → ClassId) (U : State) : Prop := va_K D vwCl (xTY cs) U ∧ xN U
theorem xN.warm {s U : State} (hW : s.WarmedH U.vm) (h : xN s) : xN U := by
  obtain ⟨⟨h1, h2, h3, h4⟩, h5, h6, h7, h8, h9⟩ := h
  have hv : s.vm.Alike U.vm := hW.alike
  exact ⟨⟨va_Nw.warmM hW h1, va_Nw.warmM hW h2, va_Nw.warmM hW h3, va_Nw.warmM hW h4⟩, h5.moved hv, h6.moved hv, h7.moved hv, h8.moved hv, h9.moved hv⟩
theorem xK.warm {D : va_G} {cs : Nat → ClassId} {s U : State} (hW : s.WarmedH U.vm) (h : xK D cs s) : xK D cs U := ⟨va_K.moved hW.alike h.1, h.2.warm hW⟩
theorem va_Nw.vm {w : Cond} {u U : State} (hw : w.onTables = true) (h : u.vm = U.vm) (hz : va_Nw w u) : va_Nw w U := va_Nw.same hw h hz
theorem xN.same {u U : State} (h : u.vm = U.vm) (hN : xN u) : xN U := by
  obtain ⟨⟨h1, h2, h3, h4⟩, h5, h6, h7, h8, h9⟩ := hN
  have hv : u.vm.Alike U.vm := by rw [h]; exact Vm.Alike.refl U.vm
  exact ⟨⟨va_Nw.vm rfl h h1, va_Nw.vm rfl h h2, va_Nw.vm rfl h h3, va_Nw.vm rfl h h4⟩, h5.moved hv, h6.moved hv, h7.moved hv, h8.moved hv, h9.moved hv⟩
theorem xK.same {D : va_G} {cs : Nat → ClassId} {u U : State} (h : u.vm = U.vm) (hK : xK D cs u) : xK D cs U := ⟨va_K.moved (by rw [h]; exact Vm.Alike.refl U.vm) hK.1, hK.2.same h⟩
/-- a method's start: its arguments, the world -/
def xPc (D : va_G) (cs : Nat → ClassId) (av : List Value) (w : va_W) (sz : Nat) : Array Value → State → Prop := va_Pc av (fun U => U.heap.size = sz ∧ va_P D vwCl w U.heap ∧ xK D cs U ∧ va_D (fun _ => True) w)
/-- a method's end: the world behind it -/
def xB {S : Type} (D : va_G) (A : Nat → Prop) (Wd : S → va_W) : S → State → Prop := fun u t => va_P D vwCl (Wd u) t.heap ∧ va_D A (Wd u)
def xBr {S : Type} (D : va_G) (A : Nat → Prop) (Wd : S → Nat → va_W) : S → Nat → State → Prop := fun u a t => va_P D vwCl (Wd u a) t.heap ∧ va_D A (Wd u a)
abbrev xQT : Type := (Nat → Prop) → Array Value → State → Outcome → State → Prop
def xQi {S : Type} (D : va_G) (post : Int32 → S → Prop) (Wd : S → va_W) : xQT := fun A => va_Qi post (xB D A Wd) A
def xQl {S : Type} (D : va_G) (post : Int64 → S → Prop) (Wd : S → va_W) : xQT := fun A => va_Ql post (xB D A Wd) A
def xQf {S : Type} (D : va_G) (post : UInt32 → S → Prop) (Wd : S → va_W) : xQT := fun A => va_Qf post (xB D A Wd) A
def xQv {S : Type} (D : va_G) (post : S → Prop) (Wd : S → va_W) : xQT := fun A => va_Qv post (xB D A Wd) A
def xQr {S : Type} (D : va_G) (post : S → Prop) (Wd : S → Nat → va_W) : xQT := fun A => va_Qr post (xBr D A Wd) A
/-- a method's words: its code, and all -/
def xws (y : MethodName) (cc : ByteArray) (nL : Nat) (ret : Option FieldType) : List Cond := .code y cc nL ret :: zAll
/-- a contract -/
def xMet (l : Launch) (D : va_G) (cs : Nat → ClassId) (y : MethodName) (cc : ByteArray) (nL : Nat) (ret : Option FieldType) (rm : Room) (av : List Value) (w : va_W) (Qk : xQT) : Prop :=
  ∀ sz : Nat, Met l y (xws y cc nL ret) rm (xPc D cs av w sz) (Qk (va_A w sz)) rm.cells rm.slots (va_A w sz)
/-- what a body knows of its place -/
def xC (p : Program) (R : Room) (s : State) (m : MethodId) (args : Array Value) (meth : Method) (c : Code) (y : MethodName) (cc : ByteArray) (nL : Nat) (ret : Option FieldType) (D : va_G) (cs : Nat → ClassId) (A : Nat → Prop) : Prop :=
  p.tables.exec = Jvm.exec ∧ c.code = cc ∧ c.maxLocals = nL ∧ s.vm.findClass y.cls = some m.cls ∧ (∀ w ∈ zAll, w.before args s = true) ∧ meth.sig.returnType = ret ∧ meth.locks = false ∧ meth.name = y.name ∧ xK D cs s ∧ (∀ q, s.heap.size ≤ q → A q)
theorem xMet.intro {l : Launch} {D : va_G} {cs : Nat → ClassId} {y : MethodName} {cc : ByteArray} {nL : Nat} {ret : Option FieldType} {rm : Room} {av : List Value} {w : va_W} {Qk : xQT} (hy : plainName y.cls = true) (hn : (lg_sl av).length ≤ nL)
    (body : ∀ (p : Program) (e : Env) (s : State) (m : MethodId) (args : Array Value) (below : List Frame) (meth : Method) (c : Code) (A : Nat → Prop) (ls : Array Slot), xC p rm s m args meth c y cc nL ret D cs A → va_P D vwCl w s.heap → va_D A w → va_S A s.heap s.heap [] → lv_has ls nL (lv_args 0 av) →
      W p l e rm s m args below meth c s.heap [] 0 0 (MQ below (Qk A) args s rm.cells rm.slots A) (F0 m 0 ls [])) : xMet l D cs y cc nL ret rm av w Qk := by
  intro sz
  refine Met.ofW (cc := cc) (maxL := nL) (ret := ret) hy rfl ?_
  intro p e s m args below meth c s₁ B hml hv
  obtain ⟨rfl, hsz, hP, hK, hD0⟩ := hv
  have hts := atoms_spec (ws := xws y cc nL ret) B.pre
  have hown : s.vm.findClass y.cls = some m.cls := findClass_of_methodNamed B.named
  have hin : meth.name = y.name := (name_of_methodNamed B.named B.method).1
  subst hsz
  have hl := lv_entry av (n := nL) hn
  rw [lg_entry_eq]
  exact body p e s m av.toArray below meth c (va_A w s.heap.size) _ ⟨B.exec, B.bytes, hml, hown, fun w h => hts w (List.mem_cons_of_mem _ h), B.returns, B.notSynchronized, hin, hK, fun q h => Or.inr h⟩ hP hD0.self va_S.rf hl
section XR
variable {p : Program} {l : Launch} {e : Env} {R : Room} {s : State} {m : MethodId} {args : Array Value} {below : List Frame} {meth : Method} {c : Code} {H : Heap} {locs : List Loc} {cells slots : Nat} {Q : State → Prop}
variable {cc : ByteArray} {y : MethodName} {nL pc mc ms : Nat} {ret : Option FieldType} {D : va_G} {cs : Nat → ClassId} {A : Nat → Prop} {ls : Array Slot} {rest : List Value} {ws : va_W}
/-- the ends -/
theorem xreti {S : Type} {post : Int32 → S → Prop} {Wd : S → va_W} {v : Int32} {ty : FieldType} (C : xC p R s m args meth c y cc nL (some ty) D cs A) (u : S) (hp : post v u) (hP : va_P D vwCl (Wd u) H) (hD : va_D A (Wd u)) (hS : va_S A s.heap H locs) (h1 : cells ≤ mc) (h2 : slots ≤ ms) (hn : narrow ty (.int v) = .int v) (hdg : decode cc pc = .ok (.ireturn, 1)) :
    W p l e R s m args below meth c H locs cells slots (MQ below (xQi D post Wd A) args s mc ms A) (F0 m pc ls [.int v]) :=
  W.widen h1 h2 (W.zret (Qc := xQi D post Wd A) C.1 C.2.1 C.2.2.2.2.2.1 hn (fun t ht hW => ⟨⟨v, u, rfl, hp, by rw [ht]; exact hP, hD⟩, hS.F ht⟩) hS.2.2 hdg C.2.2.2.2.2.2.1)
theorem xretv {S : Type} {post : S → Prop} {Wd : S → va_W} (C : xC p R s m args meth c y cc nL none D cs A) (u : S) (hp : post u) (hP : va_P D vwCl (Wd u) H) (hD : va_D A (Wd u)) (hS : va_S A s.heap H locs) (h1 : cells ≤ mc) (h2 : slots ≤ ms) (hdg : decode cc pc = .ok (.return_, 1)) :
    W p l e R s m args below meth c H locs cells slots (MQ below (xQv D post Wd A) args s mc ms A) (F0 m pc ls []) :=
  W.widen h1 h2 (W.vret (Qc := xQv D post Wd A) C.1 C.2.1 C.2.2.2.2.2.1 (fun t ht hW => ⟨⟨u, rfl, hp, by rw [ht]; exact hP, hD⟩, hS.F ht⟩) hS.2.2 hdg C.2.2.2.2.2.2.1)
theorem xretl {S : Type} {post : Int64 → S → Prop} {Wd : S → va_W} {v : Int64} (C : xC p R s m args meth c y cc nL (some .long) D cs A) (u : S) (hp : post v u) (hP : va_P D vwCl (Wd u) H) (hD : va_D A (Wd u)) (hS : va_S A s.heap H locs) (h1 : cells ≤ mc) (h2 : slots ≤ ms) (hdg : decode cc pc = .ok (.lreturn, 1)) :
    W p l e R s m args below meth c H locs cells slots (MQ below (xQl D post Wd A) args s mc ms A) (F0 m pc ls [.long v]) :=
  W.widen h1 h2 (W.lret (Qc := xQl D post Wd A) C.1 C.2.1 C.2.2.2.2.2.1 (fun t ht hW => ⟨⟨v, u, rfl, hp, by rw [ht]; exact hP, hD⟩, hS.F ht⟩) hS.2.2 hdg C.2.2.2.2.2.2.1)
theorem xretr {S : Type} {post : S → Prop} {Wd : S → Nat → va_W} {a : Nat} {rt : FieldType} (C : xC p R s m args meth c y cc nL (some rt) D cs A) (hrt : (∃ n, rt = .object n) ∨ ∃ t, rt = .array t) (u : S) (hp : post u) (hP : va_P D vwCl (Wd u a) H) (hD : va_D A (Wd u a)) (hS : va_S A s.heap H locs) (h1 : cells ≤ mc) (h2 : slots ≤ ms) (hdg : decode cc pc = .ok (.areturn, 1)) :
    W p l e R s m args below meth c H locs cells slots (MQ below (xQr D post Wd A) args s mc ms A) (F0 m pc ls [.ref a]) :=
  W.widen h1 h2 (W.aret (Qc := xQr D post Wd A) (v := .ref a) C.1 C.2.1 C.2.2.2.2.2.1 hrt (Or.inr ⟨a, rfl⟩) (fun t ht hW => ⟨⟨u, a, rfl, hp, by rw [ht]; exact hP, hD⟩, hS.F ht⟩) hS.2.2 hdg C.2.2.2.2.2.2.1)
end XR
/-! calls: what the tables say of a link -/
def xL (link : Cond) (y : MethodName) (cc : ByteArray) (nL : Nat) (ret : Option FieldType) (n : Nat) : Prop := Cond.code y cc nL ret ∈ zAll ∧ Cond.initialized y.cls ∈ zAll ∧ link ∈ zAll ∧ (y.cls ≠ "java/lang/invoke/MethodHandle" ∧ y.cls ≠ "java/lang/invoke/VarHandle" ∧ (parseMethodDescriptor y.desc).map (fun d => d.parameters.length) = some n)
def xLV (own : String) (i : Nat) (y : MethodName) (cc : ByteArray) (nL : Nat) (ret : Option FieldType) (n : Nat) : Prop := xL (.methodLink own i y) y cc nL ret n ∧ Cond.instanceMethod y ∈ zAll ∧ Cond.selects y.cls y y ∈ zAll
def xLS (own : String) (i : Nat) (y : MethodName) (cc : ByteArray) (nL : Nat) (ret : Option FieldType) (n : Nat) : Prop := xL (.methodLink own i y) y cc nL ret n ∧ Cond.static y ∈ zAll
def xLI (own : String) (i : Nat) (y : MethodName) (cc : ByteArray) (nL : Nat) (n : Nat) : Prop := xL (.methodLink own i y) y cc nL none n ∧ y.name = "<init>" ∧ Cond.instanceMethod y ∈ zAll
def xLN (own : String) (i : Nat) (y : MethodName) (cc : ByteArray) (nL : Nat) (n : Nat) : Prop := (Cond.code y cc nL none ∈ zAll ∧ Cond.initialized y.cls ∈ zAll ∧ (y.cls ≠ "java/lang/invoke/MethodHandle" ∧ y.cls ≠ "java/lang/invoke/VarHandle" ∧ (parseMethodDescriptor y.desc).map (fun d => d.parameters.length) = some n)) ∧ y.name = "<init>" ∧ Cond.instanceMethod y ∈ zAll
theorem xGood {y : MethodName} {cc : ByteArray} {nL : Nat} {ret : Option FieldType} (h : Cond.code y cc nL ret ∈ zAll) : GoodIn zAll (xws y cc nL ret) := by
  intro w hw
  rcases List.mem_cons.mp hw with rfl | hw
  · exact ⟨h, good_of_word (zAll_good _ h)⟩
  · exact ⟨hw, good_of_word (zAll_good _ hw)⟩
section XCALL
variable {p : Program} {l : Launch} {e : Env} {R rm : Room} {s : State} {m : MethodId} {args : Array Value} {below : List Frame} {meth : Method} {c : Code} {H : Heap} {locs : List Loc} {cells slots : Nat} {Q : State → Prop}
variable {cc cc2 : ByteArray} {y y2 : MethodName} {nL nL2 pc i n : Nat} {ret ret2 : Option FieldType} {D : va_G} {cs : Nat → ClassId} {A : Nat → Prop} {ls : Array Slot} {rest st0 : List Value} {ws wc : va_W} {Qk : xQT} {As : List Value} {b : Nat}
theorem xP_map {ws wc : va_W} (hP : va_P D vwCl ws H) (is : List Nat) (hs : is.map (fun i => ws[i]?) = wc.map some) : va_P D vwCl wc H := by
  refine hP.sub is ?_
  have h : ∀ (l : List Nat) (r : va_W), l.map (fun i => ws[i]?) = r.map some → l.filterMap (fun i => ws[i]?) = r := by
    intro l
    induction l with
    | nil => intro r h; cases r with
      | nil => rfl
      | cons _ _ => cases h
    | cons a l ih => intro r h; cases r with
      | nil => cases h
      | cons x r =>
        rw [List.map_cons, List.map_cons] at h
        injection h with h1 h2
        rw [List.filterMap_cons, h1, ih r h2]
  exact h is wc hs
theorem xFrameBlind {av : List Value} {w : va_W} {sz : Nat} : FrameBlind (xPc D cs av w sz) := fun a U g mk q => by
  obtain ⟨q0, q1, qP, qK, qD⟩ := q
  exact ⟨q0, q1, qP, xK.same rfl qK, qD⟩
theorem xpre (hK : xK D cs s) (hP : va_P D vwCl ws H) (hD : va_D A ws) (isC : List Nat) (hC : isC.map (fun i => ws[i]?) = wc.map some) (hn : va_nd isC = true) : ∀ U : State, U.heap = H → s.WarmedH U.vm → xPc D cs As wc H.size As.toArray U := fun U hU hW =>
  ⟨rfl, by rw [hU], by rw [hU]; exact xP_map hP isC hC, xK.warm hW hK, (hD.sub isC hn hC).weaken (fun _ _ _ _ => trivial)⟩
theorem xV (C : xC p R s m args meth c y cc nL ret D cs A) (hM : xMet l D cs y2 cc2 nL2 ret2 rm (.ref b :: As) wc Qk) (L : xLV y.cls i y2 cc2 nL2 ret2 n) (hP : va_P D vwCl ws H) (hD : va_D A ws) (isC : List Nat) (hC : isC.map (fun i => ws[i]?) = wc.map some) (hn : va_nd isC = true) (q0 : Nat) {ci : Nat} {q : vw_C} {fs : List Value} (he : wc[q0]? = some (b, .inr (ci, fs))) (hc : vwCl[ci]? = some q) (hcl : q.1 = y2.cls)
    (hR : rm.frames + 1 ≤ R.frames ∧ 8 + (nL2 + 11) + rm.locals ≤ R.locals) (hAs : As.length = n) (hsize : ls.size = nL) (hst : st0 = As.reverse ++ .ref b :: rest) (hro : (rest.map fun v => v.category).sum ≤ 8) (hdg : decode cc pc = .ok (.invokevirtual i, 3)) (hf : cells + rm.cells ≤ R.cells ∧ slots + rm.slots ≤ R.slots) :
    va_Run p l e R s m args below meth c H locs cells slots rm.cells rm.slots (F0 m pc ls st0) rest (Qk (va_A wc H.size) (Value.ref b :: As).toArray) (va_A wc H.size) := by
  obtain ⟨hx, hb, hml, hown, hz, hr, hlo, hnm, hK, hA⟩ := C
  obtain ⟨⟨L1, L2, L3, L4⟩, L5, L6⟩ := L
  have hG := xGood L1
  refine va_runV (Ts := zAll) (own := y.cls) (C := y2.cls) (As := As) (rest := rest) ⟨hx, hb, hml, hown, hz⟩ (hM H.size) (n := n) (index := i) (bytes := cc2) (maxL := nL2) (ret := ret2) ⟨callB_of n hz hG rfl rfl rfl (hz _ L2) (hz _ L3) L4 hR, hz _ L5, hz _ L6⟩ ⟨xFrameBlind, ?_, xpre hK hP hD isC hC hn⟩ rfl hAs hsize hst (lv_room hro) hdg hf
  obtain ⟨cell, g1, g2, g3⟩ := va_recv hK.1 (xP_map hP isC hC) hc he
  exact ⟨cell, g1, g2, by rw [← hcl]; exact g3⟩
theorem xS (C : xC p R s m args meth c y cc nL ret D cs A) (hM : xMet l D cs y2 cc2 nL2 ret2 rm As wc Qk) (L : xLS y.cls i y2 cc2 nL2 ret2 n) (hP : va_P D vwCl ws H) (hD : va_D A ws) (isC : List Nat) (hC : isC.map (fun i => ws[i]?) = wc.map some) (hn : va_nd isC = true)
    (hR : rm.frames + 1 ≤ R.frames ∧ 8 + (nL2 + 11) + rm.locals ≤ R.locals) (hAs : As.length = n) (hsize : ls.size = nL) (hst : st0 = As.reverse ++ rest) (hro : (rest.map fun v => v.category).sum ≤ 8) (hdg : decode cc pc = .ok (.invokestatic i, 3)) (hf : cells + rm.cells ≤ R.cells ∧ slots + rm.slots ≤ R.slots) :
    va_Run p l e R s m args below meth c H locs cells slots rm.cells rm.slots (F0 m pc ls st0) rest (Qk (va_A wc H.size) As.toArray) (va_A wc H.size) := by
  obtain ⟨hx, hb, hml, hown, hz, hr, hlo, hnm, hK, hA⟩ := C
  obtain ⟨⟨L1, L2, L3, L4⟩, L5⟩ := L
  have hG := xGood L1
  exact va_runS (Ts := zAll) (own := y.cls) (As := As) (rest := rest) ⟨hx, hb, hml, hown, hz⟩ (hM H.size) (n := n) (index := i) (bytes := cc2) (maxL := nL2) (ret := ret2) ⟨callB_of n hz hG rfl rfl rfl (hz _ L2) (hz _ L3) L4 hR, hz _ L5⟩ ⟨xFrameBlind, xpre hK hP hD isC hC hn⟩ rfl hAs hsize hst (lv_room hro) hdg hf
theorem xI (C : xC p R s m args meth c y cc nL ret D cs A) (hM : xMet l D cs y2 cc2 nL2 none rm (.ref b :: As) wc Qk) (L : xLI y.cls i y2 cc2 nL2 n) (hP : va_P D vwCl ws H) (hD : va_D A ws) (isC : List Nat) (hC : isC.map (fun i => ws[i]?) = wc.map some) (hn : va_nd isC = true)
    (hR : rm.frames + 1 ≤ R.frames ∧ 8 + (nL2 + 11) + rm.locals ≤ R.locals) (hAs : As.length = n) (hsize : ls.size = nL) (hst : st0 = As.reverse ++ .ref b :: rest) (hro : (rest.map fun v => v.category).sum ≤ 8) (hdg : decode cc pc = .ok (.invokespecial i, 3)) (hf : cells + rm.cells ≤ R.cells ∧ slots + rm.slots ≤ R.slots) :
    va_Run p l e R s m args below meth c H locs cells slots rm.cells rm.slots (F0 m pc ls st0) rest (Qk (va_A wc H.size) (Value.ref b :: As).toArray) (va_A wc H.size) := by
  obtain ⟨hx, hb, hml, hown, hz, hr, hlo, hnm, hK, hA⟩ := C
  obtain ⟨⟨L1, L2, L3, L4⟩, L5, L6⟩ := L
  have hG := xGood L1
  exact va_runI (Ts := zAll) (own := y.cls) (As := As) (rest := rest) ⟨hx, hb, hml, hown, hz⟩ (hM H.size) (n := n) (index := i) (bytes := cc2) (maxL := nL2) ⟨callB_of n hz hG rfl rfl rfl (hz _ L2) (hz _ L3) L4 hR, L5, hz _ L6⟩ ⟨xFrameBlind, xpre hK hP hD isC hC hn⟩ rfl hAs hsize hst (lv_room hro) hdg hf
theorem xIN {host : String} (C : xC p R s m args meth c y cc nL ret D cs A) (hM : xMet l D cs y2 cc2 nL2 none rm (.ref b :: As) wc Qk) (L : xLN y.cls i y2 cc2 nL2 n) (hl : va_Nw (.methodLinkNest y.cls i y2 host) s) (hP : va_P D vwCl ws H) (hD : va_D A ws) (isC : List Nat) (hC : isC.map (fun i => ws[i]?) = wc.map some) (hn : va_nd isC = true)
    (hR : rm.frames + 1 ≤ R.frames ∧ 8 + (nL2 + 11) + rm.locals ≤ R.locals) (hAs : As.length = n) (hsize : ls.size = nL) (hst : st0 = As.reverse ++ .ref b :: rest) (hro : (rest.map fun v => v.category).sum ≤ 8) (hdg : decode cc pc = .ok (.invokespecial i, 3)) (hf : cells + rm.cells ≤ R.cells ∧ slots + rm.slots ≤ R.slots) :
    va_Run p l e R s m args below meth c H locs cells slots rm.cells rm.slots (F0 m pc ls st0) rest (Qk (va_A wc H.size) (Value.ref b :: As).toArray) (va_A wc H.size) := by
  obtain ⟨hx, hb, hml, hown, hz, hr, hlo, hnm, hK, hA⟩ := C
  obtain ⟨⟨L1, L2, L4⟩, L5, L6⟩ := L
  have hG := xGood L1
  exact va_runIN (Ts := zAll) (own := y.cls) (host := host) (As := As) (rest := rest) ⟨hx, hb, hml, hown, hz⟩ (hM H.size) (n := n) (index := i) (bytes := cc2) (maxL := nL2) ⟨va_cnB n hz hG rfl rfl rfl hl (hz _ L2) L4 hR, L5, hz _ L6⟩ ⟨xFrameBlind, xpre hK hP hD isC hC hn⟩ rfl hAs hsize hst (lv_room hro) hdg hf
/-! .. and what comes behind one -/
variable {a0 : Array Value} {mc ms : Nat} {wr : va_W}
theorem xjoin {w1 : va_W} {H1 : Heap} (hP : va_P D vwCl ws H) (hD : va_D A ws) (hF : ∀ q, va_A wc H.size q → A q) (isC isR : List Nat) (hC : isC.map (fun i => ws[i]?) = wc.map some) (hR : isR.map (fun i => ws[i]?) = wr.map some) (hn : va_nd isR = true) (hdis : ∀ i ∈ isR, i ∉ isC) (hk : ∀ q : Nat, q < H.size → ¬ va_A wc H.size q → H1[q]? = H[q]?) (hP1 : va_P D vwCl w1 H1) (hD1 : va_D (va_A wc H.size) w1) : va_P D vwCl (wr ++ w1) H1 ∧ va_D A (wr ++ w1) :=
  va_join hP hD isC isR hC hR hn hdis hk hF hP1 hD1
theorem xi {S : Type} {post : Int32 → S → Prop} {Wd : S → va_W} (hr : va_Run p l e R s m args below meth c H locs cells slots mc ms (F0 m pc ls st0) rest (xQi D post Wd (va_A wc H.size) a0) (va_A wc H.size)) (hP : va_P D vwCl ws H) (hD : va_D A ws) (hS : va_S A s.heap H locs) (hA : ∀ q, s.heap.size ≤ q → A q) (isC isR : List Nat) (hC : isC.map (fun i => ws[i]?) = wc.map some) (hR : isR.map (fun i => ws[i]?) = wr.map some) (hn : va_nd isR = true) (hdis : ∀ i ∈ isR, i ∉ isC)
    (kk : ∀ (r : Int32) (u : S) (H1 : Heap) (locs1 : List Loc), post r u → va_P D vwCl (wr ++ Wd u) H1 → va_D A (wr ++ Wd u) → va_S A s.heap H1 locs1 → W p l e R s m args below meth c H1 locs1 (cells + mc) (slots + ms) Q (F0 m (pc + 3) ls (.int r :: rest))) : W p l e R s m args below meth c H locs cells slots Q (F0 m pc ls st0) := by
  have hF := va_free hD hS hA isC hC
  refine va_calli (S := S) hr hS (fun q _ h => hF q h) hF (fun r u t H1 locs1 ht hvm hw hB hz1 hk1 hS1 => ?_)
  obtain ⟨hP1, hD1⟩ := hB
  rw [ht] at hP1
  obtain ⟨hP2, hD2⟩ := va_join (wr := wr) hP hD isC isR hC hR hn hdis hk1 hF hP1 hD1
  exact kk r u H1 locs1 hw hP2 hD2 hS1
theorem xl {S : Type} {post : Int64 → S → Prop} {Wd : S → va_W} (hr : va_Run p l e R s m args below meth c H locs cells slots mc ms (F0 m pc ls st0) rest (xQl D post Wd (va_A wc H.size) a0) (va_A wc H.size)) (hP : va_P D vwCl ws H) (hD : va_D A ws) (hS : va_S A s.heap H locs) (hA : ∀ q, s.heap.size ≤ q → A q) (isC isR : List Nat) (hC : isC.map (fun i => ws[i]?) = wc.map some) (hR : isR.map (fun i => ws[i]?) = wr.map some) (hn : va_nd isR = true) (hdis : ∀ i ∈ isR, i ∉ isC)
    (kk : ∀ (r : Int64) (u : S) (H1 : Heap) (locs1 : List Loc), post r u → va_P D vwCl (wr ++ Wd u) H1 → va_D A (wr ++ Wd u) → va_S A s.heap H1 locs1 → W p l e R s m args below meth c H1 locs1 (cells + mc) (slots + ms) Q (F0 m (pc + 3) ls (.long r :: rest))) : W p l e R s m args below meth c H locs cells slots Q (F0 m pc ls st0) := by
  have hF := va_free hD hS hA isC hC
  refine va_calll (S := S) hr hS (fun q _ h => hF q h) hF (fun r u t H1 locs1 ht hvm hw hB hz1 hk1 hS1 => ?_)
  obtain ⟨hP1, hD1⟩ := hB
  rw [ht] at hP1
  obtain ⟨hP2, hD2⟩ := va_join (wr := wr) hP hD isC isR hC hR hn hdis hk1 hF hP1 hD1
  exact kk r u H1 locs1 hw hP2 hD2 hS1
theorem xv {S : Type} {post : S → Prop} {Wd : S → va_W} (hr : va_Run p l e R s m args below meth c H locs cells slots mc ms (F0 m pc ls st0) rest (xQv D post Wd (va_A wc H.size) a0) (va_A wc H.size)) (hP : va_P D vwCl ws H) (hD : va_D A ws) (hS : va_S A s.heap H locs) (hA : ∀ q, s.heap.size ≤ q → A q) (isC isR : List Nat) (hC : isC.map (fun i => ws[i]?) = wc.map some) (hR : isR.map (fun i => ws[i]?) = wr.map some) (hn : va_nd isR = true) (hdis : ∀ i ∈ isR, i ∉ isC)
    (kk : ∀ (u : S) (H1 : Heap) (locs1 : List Loc), post u → va_P D vwCl (wr ++ Wd u) H1 → va_D A (wr ++ Wd u) → va_S A s.heap H1 locs1 → W p l e R s m args below meth c H1 locs1 (cells + mc) (slots + ms) Q (F0 m (pc + 3) ls rest)) : W p l e R s m args below meth c H locs cells slots Q (F0 m pc ls st0) := by
  have hF := va_free hD hS hA isC hC
  refine va_callv (S := S) hr hS (fun q _ h => hF q h) hF (fun u t H1 locs1 ht hvm hw hB hz1 hk1 hS1 => ?_)
  obtain ⟨hP1, hD1⟩ := hB
  rw [ht] at hP1
  obtain ⟨hP2, hD2⟩ := va_join (wr := wr) hP hD isC isR hC hR hn hdis hk1 hF hP1 hD1
  exact kk u H1 locs1 hw hP2 hD2 hS1
theorem xr {S : Type} {post : S → Prop} {Wd : S → Nat → va_W} (hr : va_Run p l e R s m args below meth c H locs cells slots mc ms (F0 m pc ls st0) rest (xQr D post Wd (va_A wc H.size) a0) (va_A wc H.size)) (hP : va_P D vwCl ws H) (hD : va_D A ws) (hS : va_S A s.heap H locs) (hA : ∀ q, s.heap.size ≤ q → A q) (isC isR : List Nat) (hC : isC.map (fun i => ws[i]?) = wc.map some) (hR : isR.map (fun i => ws[i]?) = wr.map some) (hn : va_nd isR = true) (hdis : ∀ i ∈ isR, i ∉ isC)
    (kk : ∀ (u : S) (ra : Nat) (H1 : Heap) (locs1 : List Loc), post u → va_P D vwCl (wr ++ Wd u ra) H1 → va_D A (wr ++ Wd u ra) → va_S A s.heap H1 locs1 → W p l e R s m args below meth c H1 locs1 (cells + mc) (slots + ms) Q (F0 m (pc + 3) ls (.ref ra :: rest))) : W p l e R s m args below meth c H locs cells slots Q (F0 m pc ls st0) := by
  have hF := va_free hD hS hA isC hC
  refine va_callr (S := S) hr hS (fun q _ h => hF q h) hF (fun u ra t H1 locs1 ht hvm hw hB hz1 hk1 hS1 => ?_)
  obtain ⟨hP1, hD1⟩ := hB
  rw [ht] at hP1
  obtain ⟨hP2, hD2⟩ := va_join (wr := wr) hP hD isC isR hC hR hn hdis hk1 hF hP1 hD1
  exact kk u ra H1 locs1 hw hP2 hD2 hS1
end XCALL
