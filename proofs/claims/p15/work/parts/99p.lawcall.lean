/-! THE CLAIM OUT OF ONE WALK OF THE LAW'S BODY. Your part is whole_start (and what it stands on); all else here is the same for every law, but numbers. -/
def R_law : String := "SampleHouseLaw"
def lw_P (b : Addr) (xs : List Int32) (args : Array Value) (s : State) : Prop := args = #[.ref b] ∧ s.IntsAt b xs ∧ xs.length ≤ 2560 ∧ (Jvm.Cond.and given_1 narrow_1).before args s = true
/-- what a walk over the start with the record d0 says of its end, said of the start itself -/
theorem lw_closed {s t : State} {o : Outcome} {d0 : Drawn} {L : List Loc} {k n : Nat} (hd0 : s.drawn.sameBut d0 lw_cs) (hv : ∃ v, o = .returned v) (hW : (s.setDrawn d0).WarmedH t.vm) (hs : (s.setDrawn d0).sameButNew ({ t with vm := s.vm } : State) L k n) : State.butDraws s t lw_cs (fun t1 => Framed s o t1 L k n) := by
  have h2 : t.drawn = d0 := congrArg State.drawn hs.1
  refine ⟨⟨hv, hW, State.sameButNew.setDrawn hs s.drawn⟩, ?_, by decide⟩
  rw [h2]
  exact hd0
def lw_Q (_ : Array Value) (s : State) (o : Outcome) (t : State) : Prop := o = .returned (some (.int 1)) ∧ State.butDraws s t lw_cs (fun t1 => Framed s o t1 [] 601024 7293034)
def lw_Z (below : List Frame) (a : Array Value) (s : State) : State → Prop := fun t => ∃ o, t.status = .running ∧ Ended t below o ∧ lw_Q a s o t
/-- the law's own end, with 1 on the stack, nothing written that was there before, its room as the claim has it; d0: the record of draws at this point (at the entry s.drawn: begin with 'refine W.base ?_' and 'have hd0 := Drawn.sameBut.refl s.drawn lw_cs') -/
theorem lw_ret {p : Program} {l : Launch} {e : Env} {s : State} {m : MethodId} {below : List Frame} {meth : Method} {c : Code} {b : Nat} {d0 : Drawn} (hd0 : s.drawn.sameBut d0 lw_cs) (hx : p.tables.exec = Jvm.exec) (hb : c.code = code) (hr : meth.sig.returnType = ret) (hlocks : meth.locks = false) {pc : Nat} {H : Heap} {ls : Array Slot} (hdg : decode code pc = .ok (.ireturn, 1)) : W p l e room_1 (s.setDrawn d0) m #[Value.ref b] below meth c H [] 601024 7293034 (lw_Z below #[Value.ref b] s) (F0 m pc ls [.int 1]) := by
  intro T hT X
  obtain ⟨fs, hret, hrun, hended, hW, hframe⟩ := X.leave (v := some (.int 1)) (hlocks := hlocks) (fun h => by rw [hr] at h; cases h)
  have hmeth' : T.vm.method? m = some meth := X.method'
  refine ⟨T.setFrames fs, ?_, .returned (some (.int 1)), hrun, hended, rfl, lw_closed hd0 ⟨_, rfl⟩ hW hframe⟩
  jvm_step X.here [X.here.top, hx, hb, hdg, hmeth', hr, ret, narrow_b1]
  (try refine ⟨rfl, ?_⟩); (try refine ⟨rfl, ?_⟩)
  first | (intro acts; rw [hret _ acts rfl rfl rfl]) | rw [hret _ _ rfl rfl rfl]
  exact Steps.refl _
/-- what holds at the law's entry: the machine, the code, the tables' words (any of lw_tbl by 'hts w (by decide +kernel)'), the script of L ints xs at the cell b, what the Statement gives of the start (any of its parts by flat_of_before) -/
def lw_At (p : Program) (s : State) (m : MethodId) (meth : Method) (c : Code) (b L : Nat) (xs : Nat → Int32) : Prop :=
  p.tables.exec = Jvm.exec ∧ c.code = code ∧ meth.sig.returnType = ret ∧ c.maxLocals = 7 ∧ s.vm.findClass R_law = some m.cls ∧ (∀ w ∈ lw_tbl, w.before #[Value.ref b] s = true) ∧ va_X b L xs s s.heap ∧ b < s.heap.size ∧ meth.locks = false ∧ (Jvm.Cond.and given_1 narrow_1).before #[Value.ref b] s = true

theorem rangeMap {α : Type} (l : List α) : (List.range l.length).map (fun i => l[i]?) = l.map some := by
  apply List.ext_getElem?
  intro i
  rw [List.getElem?_map, List.getElem?_map]
  by_cases h : i < l.length
  · rw [List.getElem?_range h, List.getElem?_eq_getElem h]; simp [List.getElem?_eq_getElem h]
  · rw [List.getElem?_eq_none (by simp; omega), List.getElem?_eq_none (by omega)]; rfl
theorem nd_of : ∀ l : List Nat, l.Nodup → va_nd l = true
  | [], _ => rfl
  | a :: t, h => by
    rw [List.nodup_cons] at h
    simp only [va_nd, Bool.and_eq_true, decide_eq_true_eq]
    exact ⟨h.1, nd_of t h.2⟩
theorem ndRange (n : Nat) : va_nd (List.range n) = true := nd_of _ List.nodup_range
theorem permSwap {α : Type} {a b c : List α} : (a ++ (b ++ c)).Perm (b ++ (a ++ c)) := by
  rw [← List.append_assoc, ← List.append_assoc]
  exact List.perm_append_comm.append_right c
theorem CW.mem {cs : Nat → ClassId} {h0 n k al be en : Nat} {ea pr : Int32} {cN : Nat → Nat} {cI : Nat → Int32} {cF : Nat → Nat → Int32} {cG : Nat → Nat → Nat → Int32} {cP : Nat → Nat → Nat → Int32} {cQ : Nat → Nat → Nat → Int32} {pot : Nat} {w : va_W} (hw : CW cs h0 n k al be en ea pr cN cI cF cG cP cQ pot w) : ∃ fs, (h0, (.inr (11, fs) : va_E)) ∈ w := by
  obtain ⟨aA, aF, aP, cL, cM, aO, bl, bs, sP, sY, sZ, sH, sG, rfl, -⟩ := hw
  exact ⟨_, List.mem_append_left _ (by unfold CORE; exact List.mem_cons_self)⟩
theorem CW.pot {cs : Nat → ClassId} {h0 n k al be en : Nat} {ea pr : Int32} {cN : Nat → Nat} {cI : Nat → Int32} {cF : Nat → Nat → Int32} {cG : Nat → Nat → Nat → Int32} {cP : Nat → Nat → Nat → Int32} {cQ : Nat → Nat → Nat → Int32} {pot : Nat} {w : va_W} (hw : CW cs h0 n k al be en ea pr cN cI cF cG cP cQ pot w) : pot ≤ 72000 := by
  obtain ⟨aA, aF, aP, cL, cM, aO, bl, bs, sP, sY, sZ, sH, sG, -, hp, -, -, h1, h2, -⟩ := hw
  rcases h1 with ⟨h1, -⟩ | ⟨h1, -⟩ <;> rcases h2 with ⟨h2, -⟩ | ⟨h2, -⟩ <;> omega
theorem MW.mem {cs : Nat → ClassId} {hm n k al be en : Nat} {ea pr : Int32} {mN : Nat → Nat} {mI : Nat → Int32} {mF : Nat → Nat → Int32} {pot : Nat} {w : va_W} (hw : MW cs hm n k al be en ea pr mN mI mF pot w) : ∃ fs, (hm, (.inr (12, fs) : va_E)) ∈ w := by
  obtain ⟨aA, cL, cO, cM, bm, wr, rfl, -⟩ := hw
  exact ⟨_, List.mem_append_left _ (by unfold MCORE; exact List.mem_cons_self)⟩
theorem MW.pot {cs : Nat → ClassId} {hm n k al be en : Nat} {ea pr : Int32} {mN : Nat → Nat} {mI : Nat → Int32} {mF : Nat → Nat → Int32} {pot : Nat} {w : va_W} (hw : MW cs hm n k al be en ea pr mN mI mF pot w) : pot ≤ 213000 := by
  obtain ⟨aA, cL, cO, cM, bm, wr, -, hp, -, h1⟩ := hw
  rcases h1 with ⟨h1, -⟩ | ⟨h1, -⟩ <;> omega
theorem sub5 {L : Nat} (hL : L ≤ 2560) : (nI L - nI 5).toInt = (L : Int) - 5 := by
  rcases Nat.lt_or_ge L 5 with h | h
  · have e : ∀ L, L < 5 → (nI L - nI 5).toInt = (L : Int) - 5 := by decide
    exact e L h
  · rw [pk_sub h, nI_toInt (by omega)]
    omega
theorem law_gt {i L : Nat} (hL : L ≤ 2560) (hi : i ≤ L) (h : L < i + 5) : nI L - nI 5 < nI i := by
  rw [Int32.lt_iff_toInt_lt, sub5 hL, nI_toInt (by omega)]
  omega
theorem law_le {i L : Nat} (hL : L ≤ 2560) (h : i + 5 ≤ L) : ¬ nI L - nI 5 < nI i := by
  rw [Int32.lt_iff_toInt_lt, sub5 hL, nI_toInt (by omega)]
  omega
section LAWCALL
variable {p : Program} {l : Launch} {e : Env} {R : Room} {s : State} {m : MethodId} {args : Array Value} {below : List Frame} {meth : Method} {c : Code} {H : Heap} {locs : List Loc} {cells slots : Nat} {Q : State → Prop}
variable {cc cc2 : ByteArray} {y y2 : MethodName} {nL nL2 pc i n : Nat} {ret ret2 : Option FieldType} {D : va_G} {cs : Nat → ClassId} {A : Nat → Prop} {ls : Array Slot} {rest st0 : List Value} {w wr : va_W} {As : List Value} {b : Nat}
theorem law_i {post : Int32 → va_W → Nat → Prop} {sl pot : Nat} {ci : Nat} {q : vw_C} (C : xC p R s m args meth c y cc nL ret D cs A) (K : ∃ (rm : Room) (pot2 : Nat), xRm rm pot pot2 ∧ xMet l D cs y2 cc2 nL2 ret2 rm (.ref b :: As) w (xQi D (fun r w2 => post r w2 pot2) (fun w2 => w2))) (L : xLV y.cls i y2 cc2 nL2 ret2 n) (hP : va_P D vwCl (w ++ wr) H) (hD : va_D A (w ++ wr)) (hS : va_S A s.heap H locs) (he : ∃ fs, (b, (.inr (ci, fs) : va_E)) ∈ w) (hc : vwCl[ci]? = some q) (hcl : q.1 = y2.cls) (hnL : nL2 ≤ 10) (hR : 41 ≤ R.frames ∧ 1030 ≤ R.locals) (hf : cells + 200 ≤ R.cells ∧ (sl + pot) + 213000 ≤ R.slots)
    (hAs : As.length = n) (hsize : ls.size = nL) (hst : st0 = As.reverse ++ .ref b :: rest) (hro : (rest.map fun v => v.category).sum ≤ 8) (hdg : decode cc pc = .ok (.invokevirtual i, 3))
    (kk : ∀ (r : Int32) (w2 : va_W) (pot2 : Nat) (H1 : Heap) (locs1 : List Loc), post r w2 pot2 → va_P D vwCl (w2 ++ wr) H1 → va_D A (w2 ++ wr) → va_S A s.heap H1 locs1 → W p l e R s m args below meth c H1 locs1 (cells + 200) (sl + 500 + pot2) Q (F0 m (pc + 3) ls (.int r :: rest))) : W p l e R s m args below meth c H locs cells (sl + pot) Q (F0 m pc ls st0) := by
  obtain ⟨rm, pot2, ⟨h1, h2, h3, h4, h5⟩, hM⟩ := K
  obtain ⟨fs, he⟩ := he
  have hM2 := hM.lift_i (wr := wr) (ws := w ++ wr) (Wd' := fun w2 => w2 ++ wr) (post' := fun r w2 => post r w2 pot2) (List.Perm.refl _) (fun r u h => ⟨u, h, List.Perm.refl _⟩)
  obtain ⟨q0, hq0⟩ := List.getElem?_of_mem (List.mem_append_left wr he)
  exact xi (wr := []) (xV (R := R) C hM2 L hP hD (List.range (w ++ wr).length) (rangeMap _) (ndRange _) q0 hq0 hc hcl ⟨by omega, by omega⟩ hAs hsize hst hro hdg ⟨by omega, by omega⟩) hP hD hS C.2.2.2.2.2.2.2.2.2 (List.range (w ++ wr).length) [] (rangeMap _) rfl rfl (fun i h => nomatch h) (fun r u H1 locs1 hp hP1 hD1 hS1 => W.widen (by omega) (by omega) (kk r u pot2 H1 locs1 hp hP1 hD1 hS1))
theorem law_l {post : Int64 → va_W → Nat → Prop} {sl pot : Nat} {ci : Nat} {q : vw_C} (C : xC p R s m args meth c y cc nL ret D cs A) (K : ∃ (rm : Room) (pot2 : Nat), xRm rm pot pot2 ∧ xMet l D cs y2 cc2 nL2 ret2 rm (.ref b :: As) w (xQl D (fun r w2 => post r w2 pot2) (fun w2 => w2))) (L : xLV y.cls i y2 cc2 nL2 ret2 n) (hP : va_P D vwCl (w ++ wr) H) (hD : va_D A (w ++ wr)) (hS : va_S A s.heap H locs) (he : ∃ fs, (b, (.inr (ci, fs) : va_E)) ∈ w) (hc : vwCl[ci]? = some q) (hcl : q.1 = y2.cls) (hnL : nL2 ≤ 10) (hR : 41 ≤ R.frames ∧ 1030 ≤ R.locals) (hf : cells + 200 ≤ R.cells ∧ (sl + pot) + 213000 ≤ R.slots)
    (hAs : As.length = n) (hsize : ls.size = nL) (hst : st0 = As.reverse ++ .ref b :: rest) (hro : (rest.map fun v => v.category).sum ≤ 8) (hdg : decode cc pc = .ok (.invokevirtual i, 3))
    (kk : ∀ (r : Int64) (w2 : va_W) (pot2 : Nat) (H1 : Heap) (locs1 : List Loc), post r w2 pot2 → va_P D vwCl (w2 ++ wr) H1 → va_D A (w2 ++ wr) → va_S A s.heap H1 locs1 → W p l e R s m args below meth c H1 locs1 (cells + 200) (sl + 500 + pot2) Q (F0 m (pc + 3) ls (.long r :: rest))) : W p l e R s m args below meth c H locs cells (sl + pot) Q (F0 m pc ls st0) := by
  obtain ⟨rm, pot2, ⟨h1, h2, h3, h4, h5⟩, hM⟩ := K
  obtain ⟨fs, he⟩ := he
  have hM2 := hM.lift_l (wr := wr) (ws := w ++ wr) (Wd' := fun w2 => w2 ++ wr) (post' := fun r w2 => post r w2 pot2) (List.Perm.refl _) (fun r u h => ⟨u, h, List.Perm.refl _⟩)
  obtain ⟨q0, hq0⟩ := List.getElem?_of_mem (List.mem_append_left wr he)
  exact xl (wr := []) (xV (R := R) C hM2 L hP hD (List.range (w ++ wr).length) (rangeMap _) (ndRange _) q0 hq0 hc hcl ⟨by omega, by omega⟩ hAs hsize hst hro hdg ⟨by omega, by omega⟩) hP hD hS C.2.2.2.2.2.2.2.2.2 (List.range (w ++ wr).length) [] (rangeMap _) rfl rfl (fun i h => nomatch h) (fun r u H1 locs1 hp hP1 hD1 hS1 => W.widen (by omega) (by omega) (kk r u pot2 H1 locs1 hp hP1 hD1 hS1))
theorem law_H {S : Type} {post : Int32 → S → Prop} {Wd : S → va_W} {hh : List (Nat × Nat × Nat × Nat)} {sl pot : Nat} (C : xC p R s m args meth c y cc nL ret D cs A) (K : ∃ (rm : Room), xRm rm pot pot ∧ xMetH l D cs y2 cc2 nL2 ret2 hh rm As w (xQi D post Wd)) (Lc : Cond.codeWith y2 cc2 nL2 ret2 hh ∈ zAll) (Li : Cond.initialized y2.cls ∈ zAll) (Ll : Cond.methodLink y.cls i y2 ∈ zAll) (Ls : Cond.static y2 ∈ zAll) (Ld : y2.cls ≠ "java/lang/invoke/MethodHandle" ∧ y2.cls ≠ "java/lang/invoke/VarHandle" ∧ (parseMethodDescriptor y2.desc).map (fun d => d.parameters.length) = some n) (hTH : xTH s) (hZ : xZ A s s.heap) (hP : va_P D vwCl w H) (hD : va_D A w) (hS : va_S A s.heap H locs) (hnL : nL2 ≤ 10) (hR : 41 ≤ R.frames ∧ 1030 ≤ R.locals) (hf : cells + 200 ≤ R.cells ∧ (sl + pot) + 213000 ≤ R.slots)
    (hAs : As.length = n) (hsize : ls.size = nL) (hst : st0 = As.reverse ++ rest) (hro : (rest.map fun v => v.category).sum ≤ 8) (hdg : decode cc pc = .ok (.invokestatic i, 3))
    (kk : ∀ (r : Int32) (u : S) (H1 : Heap) (locs1 : List Loc), post r u → va_P D vwCl (Wd u) H1 → va_D A (Wd u) → va_S A s.heap H1 locs1 → W p l e R s m args below meth c H1 locs1 (cells + 200) (sl + 500 + pot) Q (F0 m (pc + 3) ls (.int r :: rest))) : W p l e R s m args below meth c H locs cells (sl + pot) Q (F0 m pc ls st0) := by
  obtain ⟨rm, ⟨h1, h2, h3, h4, h5⟩, hM⟩ := K
  exact xi (wr := []) (xSH (R := R) C hM Lc Li Ll Ls Ld hTH hZ hS hP hD (List.range w.length) (rangeMap _) (ndRange _) ⟨by omega, by omega⟩ hAs hsize hst hro hdg ⟨by omega, by omega⟩) hP hD hS C.2.2.2.2.2.2.2.2.2 (List.range w.length) [] (rangeMap _) rfl rfl (fun i h => nomatch h) (fun r u H1 locs1 hp hP1 hD1 hS1 => W.widen (by omega) (by omega) (kk r u H1 locs1 hp hP1 hD1 hS1))
end LAWCALL

/-- the law's loop, where i ints have been read -/
def LawAt (p : Program) (l : Launch) (e : Env) (s : State) (m : MethodId) (below : List Frame) (meth : Method) (c : Code) (D : va_G) (cs : Nat → ClassId) (A : Nat → Prop) (b h0 hm out i : Nat) : Prop := ∀ (n k al be en : Nat) (ea pr : Int32) (cN : Nat → Nat) (cI : Nat → Int32) (cF : Nat → Nat → Int32) (cG : Nat → Nat → Nat → Int32) (cP : Nat → Nat → Nat → Int32) (cQ : Nat → Nat → Nat → Int32) (mN : Nat → Nat) (mI : Nat → Int32) (mF : Nat → Nat → Int32) (pot potm : Nat) (w wm : va_W) (og : Nat → Int64) (H : Heap) (locs : List Loc) (ls : Array Slot), GP n k al be en → RelB n be en ea pr cN cI cF cG cP cQ mN mI mF → OkM mN mF → RelS n k al be pr (1 + i) cN cI cG mF → CW cs h0 n k al be en ea pr cN cI cF cG cP cQ pot w → MW cs hm n k al be en ea pr mN mI mF potm wm → va_P D vwCl (w ++ (wm ++ [(out, .inl (cs 1, 1, .inr (.inl og)))])) H → va_D A (w ++ (wm ++ [(out, .inl (cs 1, 1, .inr (.inl og)))])) → va_S A s.heap H locs → lv_has ls 7 [(4, .int (nI i)), (3, .ref out), (2, .ref hm), (1, .ref h0), (0, .ref b)] → W p l e room_1 s m #[Value.ref b] below meth c H locs (300 + 120 * i) ((20000 + 300 * i + potm) + pot) (lw_Z below #[Value.ref b] s) (F0 m 23 ls [])
