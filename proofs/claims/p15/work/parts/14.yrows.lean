theorem xasg (vm : Vm) (c : ClassId) : vm.assignable c c = true := by
  show vm.assignableAux (255 + 1) c c = true
  rw [Vm.assignableAux, Bool.or_eq_true, beq_iff_eq]
  exact Or.inl rfl
section YROWS
variable {p : Program} {l : Launch} {e : Env} {R : Room} {s : State} {m : MethodId} {args : Array Value} {below : List Frame} {meth : Method} {c : Code} {H : Heap} {locs : List Loc} {cells slots : Nat} {Q : State → Prop}
variable {cc : ByteArray} {y : MethodName} {nL pc i n : Nat} {ret : Option FieldType} {D : va_G} {cs : Nat → ClassId} {A : Nat → Prop} {ls : Array Slot} {rest : List Value} {ws : va_W} {a : Nat}
theorem xnewq (C : xC p R s m args meth c y cc nL ret D cs A) (hP : va_P D vwCl ws H) (hD : va_D A ws) (hS : va_S A s.heap H locs) (t0 : Nat) {Cn : String} (ht : (xTY cs)[t0]? = some (cs t0, .object Cn)) (hao : va_AO Cn s) (hcl : Cond.classLink y.cls i Cn ∈ zAll) {k : Int32} (hk : k = nI n) (hn : n < 2 ^ 20) (hcells : cells + 1 ≤ R.cells) (hslots : slots + n ≤ R.slots) (hdg : decode cc pc = .ok (.anewarray i, 3))
    (kk : ∀ (q : Nat) (H1 : Heap), va_P D vwCl (ws ++ [(q, .inl (cs t0, n, .inr (.inr (.inr (.inr (fun _ => none))))))]) H1 → va_D A (ws ++ [(q, .inl (cs t0, n, .inr (.inr (.inr (.inr (fun _ => none))))))]) → va_S A s.heap H1 locs → W p l e R s m args below meth c H1 locs (cells + 1) (slots + n) Q (F0 m (pc + 3) ls (.ref q :: rest))) : W p l e R s m args below meth c H locs cells slots Q (F0 m pc ls (.int k :: rest)) := by
  have hb : n < 2 ^ 31 := Nat.lt_trans hn (by decide)
  refine va_newq C.1 C.2.1 C.2.2.2.1 (C.2.2.2.2.1 _ hcl) hao C.2.2.2.2.2.2.2.2.1.1 hP hD hS C.2.2.2.2.2.2.2.2.2 (by rw [hk]; exact nI_pos hb) (by rw [hk]; exact nI_clamp hb) (by omega) hcells hslots hdg fun q cA H1 hK1 hP1 hD1 hS1 => ?_
  obtain ⟨-, h1⟩ := hK1.2 (xTY cs).length (cA, .object Cn) (by rw [List.getElem?_append_right (Nat.le_refl _), Nat.sub_self]; rfl)
  obtain ⟨-, h2⟩ := C.2.2.2.2.2.2.2.2.1.1.2 t0 _ ht
  obtain ⟨_, _, -, -, -, g1⟩ := h1
  obtain ⟨_, _, -, -, -, g2⟩ := h2
  cases (g1.symm.trans g2)
  exact kk q H1 hP1 hD1 hS1
theorem xnewA (C : xC p R s m args meth c y cc nL ret D cs A) (hP : va_P D vwCl ws H) (hD : va_D A ws) (hS : va_S A s.heap H locs) (t0 : Nat) {t : FieldType} (ht : (xTY cs)[t0]? = some (cs t0, .array t)) (hao : va_AOA t s) (hcl : Cond.classLink y.cls i (FieldType.array t).toString ∈ zAll) {k : Int32} (hk : k = nI n) (hn : n < 2 ^ 20) (hcells : cells + 1 ≤ R.cells) (hslots : slots + n ≤ R.slots) (hdg : decode cc pc = .ok (.anewarray i, 3))
    (kk : ∀ (q : Nat) (H1 : Heap), va_P D vwCl (ws ++ [(q, .inl (cs t0, n, .inr (.inr (.inr (.inr (fun _ => none))))))]) H1 → va_D A (ws ++ [(q, .inl (cs t0, n, .inr (.inr (.inr (.inr (fun _ => none))))))]) → va_S A s.heap H1 locs → W p l e R s m args below meth c H1 locs (cells + 1) (slots + n) Q (F0 m (pc + 3) ls (.ref q :: rest))) : W p l e R s m args below meth c H locs cells slots Q (F0 m pc ls (.int k :: rest)) := by
  have hb : n < 2 ^ 31 := Nat.lt_trans hn (by decide)
  have hc : k.toNatClampNeg = n := by rw [hk]; exact nI_clamp hb
  subst hc
  refine W.anewA C.1 C.2.1 C.2.2.2.1 (C.2.2.2.2.1 _ hcl) (va_AOA.use hao) rfl hdg rfl (by rw [hk]; exact nI_pos hb) (by omega) hcells hslots fun cA kA comp f1 f2 f3 f4 => ?_
  have h2 : s.vm.findClass ("[" ++ (FieldType.array t).toString) = some (cs t0) := (C.2.2.2.2.2.2.2.2.1.1.2 t0 _ ht).2
  cases (f1.symm.trans h2)
  generalize hH1 : H.push ({ cls := cs t0, slots := Array.replicate k.toNatClampNeg .null, vm := .none } : Cell) = H1
  have z1 : H1.size = H.size + 1 := by rw [← hH1, Array.size_push]
  have e1 : H1[H.size]? = some (arrV (cs t0) k.toNatClampNeg (fun _ => .null)) := by rw [← hH1, Array.getElem?_push_size, ← arrV_new]
  have o1 : ∀ q : Nat, q < H.size → H1[q]? = H[q]? := fun q hq => by rw [← hH1, Array.getElem?_push, if_neg (Nat.ne_of_lt hq)]
  obtain ⟨h1, h2, h3⟩ := xpush (x := .inl (cs t0, k.toNatClampNeg, .inr (.inr (.inr (.inr (fun _ => none)))))) hP hD hS C.2.2.2.2.2.2.2.2.2 z1 o1 e1
  exact kk H.size H1 h1 h2 h3
/-- an array into an array of arrays -/
theorem xaastA (C : xC p R s m args meth c y cc nL ret D cs A) (hP : va_P D vwCl ws H) (hD : va_D A ws) (hS : va_S A s.heap H locs) (q0 t0 qk t1 : Nat) {t : FieldType} {v : Nat} {x : vp_A} {f : Nat → Option Nat} (ha : ws[q0]? = some (a, .inl (cs t0, n, .inr (.inr (.inr (.inr f)))))) (ht : (xTY cs)[t0]? = some (cs t0, .array t)) (ht1 : (xTY cs)[t1]? = some (cs t1, t)) (hnm : va_RA s (cs t1) t → s.vm.findClass (FieldType.array t).toString = some (cs t1)) (hao : va_AOA t s) (hv : ws[qk]? = some (v, .inl (cs t1, x))) {i : Int32} (j : Nat) (hi : i = nI j) (hj : j < n) (hn : n < 2 ^ 31) (hdg : decode cc pc = .ok (.aastore, 1))
    (kk : ∀ (H1 : Heap) (locs1 : List Loc), va_P D vwCl (ws.set q0 (a, .inl (cs t0, n, .inr (.inr (.inr (.inr (va_up f j (some v)))))))) H1 → va_D A (ws.set q0 (a, .inl (cs t0, n, .inr (.inr (.inr (.inr (va_up f j (some v)))))))) → va_S A s.heap H1 locs1 → W p l e R s m args below meth c H1 locs1 cells slots Q (F0 m (pc + 1) ls rest)) : W p l e R s m args below meth c H locs cells slots Q (F0 m pc ls (.ref v :: .int i :: .ref a :: rest)) := by
  obtain ⟨h1, h2⟩ := xin hi hj hn
  have h0 : ¬ i < 0 := fun q => h1 (Or.inl q)
  have hK := C.2.2.2.2.2.2.2.2.1.1
  obtain ⟨comp, c0, k0, f1, f2, f3, f4, f5⟩ := arrayOverA_spec hao
  have g1 : s.vm.findClass (FieldType.array t).toString = some (cs t1) := hnm (hK.2 t1 _ ht1).2
  cases (f1.symm.trans g1)
  have g2 : s.vm.findClass ("[" ++ (FieldType.array t).toString) = some (cs t0) := (hK.2 t0 _ ht).2
  cases (f5.symm.trans g2)
  obtain ⟨kv, hkv, -⟩ := Vm.findClass_spec g1
  have hcv : H[v]? = some (vp_cell (cs t1) x) := hP qk _ hv
  have hcls : (vp_cell (cs t1) x).cls = cs t1 := by obtain ⟨n, f | f | f | f | f⟩ := x <;> rfl
  have hvm : (vp_cell (cs t1) x).vm = .none := by obtain ⟨n, f | f | f | f | f⟩ := x <;> rfl
  refine W.aast C.1 C.2.1 (hP q0 _ ha) (fun q h => by cases h) (fun h => by cases h) f3 f4 rfl hkv ⟨h0, by show _ < (arrV _ _ _).slots.size; rw [arrV_size, h2]; exact hj⟩ hcv (fun q h => by rw [hvm] at h; cases h) (by rw [hcls]; exact hkv) (by rw [hcls]; exact xasg _ _) rfl rfl hdg fun H1 e z oq => ?_
  refine kk H1 _ (hP.set hD ha ?_ oq) (hD.set ha) (hS.put z oq (hD.2 q0 _ ha))
  show H1[a]? = some (vp_cell _ _)
  rw [e, h2]
  rw [vp_cell_q, vp_cell_q, arrV_store]
  congr 2
  funext q
  by_cases hq : q = j
  · subst hq
    simp [updV, va_up, va_rf]
  · simp [updV, va_up, hq]
theorem xrows (N : Nat) (r : Nat → Nat) (f : Nat → va_E) (v : va_E) : va_pl ([] ++ (List.range N).map r) (vr_up f ((List.range N).map r) v) = (List.range N).map (fun i => (r i, v)) := by
  unfold va_pl
  rw [List.nil_append, List.map_map]
  apply List.map_congr_left
  intro i hi
  show (r i, _) = (r i, _)
  rw [vr_up_in (List.mem_map.mpr ⟨i, hi, rfl⟩)]
theorem xmna (C : xC p R s m args meth c y cc nL ret D cs A) (hP : va_P D vwCl ws H) (hD : va_D A ws) (hS : va_S A s.heap H locs) (t0 t1 : Nat) {ty : FieldType} (ht : (xTY cs)[t0]? = some (cs t0, .array ty)) (hcy : s.vm.findClass (FieldType.array ty).toString = some (cs t1)) (hao : va_AOA ty s) (harr : Cond.arrayClass ty ∈ zAll) (hcl : Cond.classLink y.cls i ("[" ++ (FieldType.array ty).toString) ∈ zAll) {n k : Int32} {N' K' : Nat} (z : vp_A) (hN : n = nI N') (hM : k = nI K') (hb1 : N' < 2 ^ 20) (hb2 : K' < 2 ^ 20) (hb3 : K' * componentBytes ty ≤ 536870912) (hdf : fits ty (defaultValue ty) = true) (hdd : (defaultValue ty).isDefault = true) (hcells : cells + (1 + N') ≤ R.cells) (hslots : slots + (N' + N' * K') ≤ R.slots) (hz : ∀ c : ClassId, Jvm.Free.Multi.innerC c K' (defaultValue ty) = vp_cell c z) (hdg : decode cc pc = .ok (.multianewarray i 2, 4))
    (kk : ∀ (q : Nat) (r : Nat → Nat) (H1 : Heap), va_P D vwCl ((ws ++ [(q, .inl (cs t0, N', .inr (.inr (.inr (.inr (fun i => if i < N' then some (r i) else none))))))]) ++ (List.range N').map (fun i => (r i, .inl (cs t1, z)))) H1 → va_D A ((ws ++ [(q, .inl (cs t0, N', .inr (.inr (.inr (.inr (fun i => if i < N' then some (r i) else none))))))]) ++ (List.range N').map (fun i => (r i, .inl (cs t1, z)))) → va_S A s.heap H1 locs → W p l e R s m args below meth c H1 locs (cells + (1 + N')) (slots + (N' + N' * K')) Q (F0 m (pc + 4) ls (.ref q :: rest))) : W p l e R s m args below meth c H locs cells slots Q (F0 m pc ls (.int k :: .int n :: rest)) := by
  have h1 : N' < 2 ^ 31 := Nat.lt_trans hb1 (by decide)
  have h2 : K' < 2 ^ 31 := Nat.lt_trans hb2 (by decide)
  refine va_mna (X := ws) (L := []) (f := fun _ => .inr (0, [])) (z := z) (N' := N') (K' := K') C.1 C.2.1 C.2.2.2.1 (C.2.2.2.2.1 _ hcl) hao (C.2.2.2.2.1 _ harr) hcy C.2.2.2.2.2.2.2.2.1.1 (by show va_P D vwCl (ws ++ []) H; rw [List.append_nil]; exact hP) (by show va_D A (ws ++ []); rw [List.append_nil]; exact hD) hS C.2.2.2.2.2.2.2.2.2 (by rw [hN]; exact nI_pos h1) (by rw [hM]; exact nI_pos h2) (by rw [hN]; exact nI_clamp h1) (by rw [hM]; exact nI_clamp h2) (by omega) hb3 (by omega) hdf hdd hcells hslots hz hdg fun q r cA H1 hr1 hr2 hK1 hP1 hD1 hS1 => ?_
  obtain ⟨-, g1⟩ := hK1.2 (xTY cs).length (cA, .array ty) (by rw [List.getElem?_append_right (Nat.le_refl _), Nat.sub_self]; rfl)
  have g2 : s.vm.findClass ("[" ++ (FieldType.array ty).toString) = some (cs t0) := (C.2.2.2.2.2.2.2.2.1.1.2 t0 _ ht).2
  have g1' : s.vm.findClass ("[" ++ (FieldType.array ty).toString) = some cA := g1
  cases (g1'.symm.trans g2)
  rw [xrows] at hP1 hD1
  have hk := kk q r H1 hP1 hD1 hS1
  rw [show cells + 1 + N' = cells + (1 + N') by omega, show slots + N' + N' * K' = slots + (N' + N' * K') by omega]
  exact hk
theorem xcopy (C : xC p R s m args meth c y cc nL ret D cs A) (hP : va_P D vwCl ws H) (hD : va_D A ws) (hS : va_S A s.heap H locs) (q0 q1 : Nat) {a0 a1 n0 n1 : Nat} {f g : Nat → Int32} (ha0 : ws[q0]? = some (a0, .inl (cs 0, n0, .inl f))) (ha1 : ws[q1]? = some (a1, .inl (cs 0, n1, .inl g))) {spx dpx kx : Int32} {sp dp k : Nat} (hsp : spx = nI sp) (hdp : dpx = nI dp) (hk : kx = nI k) (h4 : sp + k ≤ n0) (h5 : dp + k ≤ n1) (hn : n0 < 2 ^ 30 ∧ n1 < 2 ^ 30) (hlink : Cond.methodLink y.cls i arraycopyName ∈ zAll) (hnat : Cond.native arraycopyName ∈ zAll) (hst : Cond.static arraycopyName ∈ zAll) (hini : Cond.initialized "java/lang/System" ∈ zAll) (hframes : 1 ≤ R.frames) (hlocals : (rest.map fun v => v.category).sum + (nativeFrameWords "java/lang/System" "arraycopy" 5 + 11) ≤ R.locals) (hls : ls.size = nL) (hdg : decode cc pc = .ok (.invokestatic i, 3))
    (kk : ∀ (H1 : Heap) (locs1 : List Loc), va_P D vwCl (ws.set q1 (a1, .inl (cs 0, n1, .inl (va_cpy f g sp dp k)))) H1 → va_D A (ws.set q1 (a1, .inl (cs 0, n1, .inl (va_cpy f g sp dp k)))) → va_S A s.heap H1 locs1 → W p l e R s m args below meth c H1 locs1 cells slots Q (F0 m (pc + 3) ls rest)) : W p l e R s m args below meth c H locs cells slots Q (F0 m pc ls (.int kx :: .int dpx :: .ref a1 :: .int spx :: .ref a0 :: rest)) := by
  subst hsp; subst hdp; subst hk
  have b1 : (nI sp).toNatClampNeg = sp := nI_clamp (by omega)
  have b2 : (nI dp).toNatClampNeg = dp := nI_clamp (by omega)
  have b3 : (nI k).toNatClampNeg = k := nI_clamp (by omega)
  refine va_copyi C.1 C.2.1 (C.2.2.1.trans hls.symm) C.2.2.2.1 (C.2.2.2.2.1 _ hlink) (C.2.2.2.2.1 _ hnat) (C.2.2.2.2.1 _ hst) (C.2.2.2.2.1 _ hini) C.2.2.2.2.2.2.2.2.1.1 hP hD hS q0 q1 0 0 ha0 ha1 rfl rfl rfl (nI_pos (by omega)) (nI_pos (by omega)) (nI_pos (by omega)) (by rw [b1, b3]; exact h4) (by rw [b2, b3]; exact h5) (fun i _ => rfl) hframes hlocals hdg ?_
  rw [b1, b2, b3]
  exact kk
/-- a comparison of two numbers, in numbers -/
theorem nf_lt {a b : Nat} (ha : a < 2 ^ 31) (hb : b < 2 ^ 31) (h : nI a < nI b) : a < b := (nI_ltI ha hb).mp h
theorem nf_nlt {a b : Nat} (ha : a < 2 ^ 31) (hb : b < 2 ^ 31) (h : ¬ nI a < nI b) : b ≤ a := Nat.not_lt.mp fun q => h ((nI_ltI ha hb).mpr q)
theorem nf_le {a b : Nat} (ha : a < 2 ^ 31) (hb : b < 2 ^ 31) (h : nI a ≤ nI b) : a ≤ b := (nI_leI ha hb).mp h
theorem nf_nle {a b : Nat} (ha : a < 2 ^ 31) (hb : b < 2 ^ 31) (h : ¬ nI a ≤ nI b) : b < a := Nat.not_le.mp fun q => h ((nI_leI ha hb).mpr q)
theorem nf_eq {a b : Nat} (ha : a < 2 ^ 31) (hb : b < 2 ^ 31) (h : nI a = nI b) : a = b := (nI_eq ha hb).mp h
theorem nf_ne {a b : Nat} (ha : a < 2 ^ 31) (hb : b < 2 ^ 31) (h : ¬ nI a = nI b) : a ≠ b := fun q => h ((nI_eq ha hb).mpr q)
end YROWS
theorem xarr {cA : ClassId} {n : Nat} {V U : Nat → Value} (h : ∀ j, j < n → V j = U j) : arrV cA n V = arrV cA n U := by
  unfold arrV
  congr 1
  apply Array.ext
  · first | rfl | simp
  · intro i h1 h2
    first
      | (simp; exact h i (by simpa using h1))
      | (simp only [Array.getElem_ofFn]; exact h i (by simpa using h1))
theorem xset {D : va_G} {A : Nat → Prop} {ws : va_W} {H : Heap} {q0 a : Nat} {e e' : va_E} (hP : va_P D vwCl ws H) (hD : va_D A ws) (ha : ws[q0]? = some (a, e)) (he : va_at D vwCl (a, e) H → va_at D vwCl (a, e') H) : va_P D vwCl (ws.set q0 (a, e')) H ∧ va_D A (ws.set q0 (a, e')) :=
  ⟨hP.set hD ha (he (hP q0 _ ha)) (fun _ _ => rfl), hD.set ha⟩
theorem xcongi {D : va_G} {A : Nat → Prop} {ws : va_W} {H : Heap} {q0 a n : Nat} {cA : ClassId} {f : Nat → Int32} (g : Nat → Int32) (hP : va_P D vwCl ws H) (hD : va_D A ws) (ha : ws[q0]? = some (a, .inl (cA, n, .inl f))) (h : ∀ j, j < n → g j = f j) : va_P D vwCl (ws.set q0 (a, .inl (cA, n, .inl g))) H ∧ va_D A (ws.set q0 (a, .inl (cA, n, .inl g))) :=
  xset hP hD ha (fun q => by
    show H[a]? = some (arrV cA n (fun j => .int (g j)))
    rw [xarr (U := fun j => .int (f j)) (fun j hj => by rw [h j hj])]
    exact q)
theorem xcongl {D : va_G} {A : Nat → Prop} {ws : va_W} {H : Heap} {q0 a n : Nat} {cA : ClassId} {f : Nat → Int64} (g : Nat → Int64) (hP : va_P D vwCl ws H) (hD : va_D A ws) (ha : ws[q0]? = some (a, .inl (cA, n, .inr (.inl f)))) (h : ∀ j, j < n → g j = f j) : va_P D vwCl (ws.set q0 (a, .inl (cA, n, .inr (.inl g)))) H ∧ va_D A (ws.set q0 (a, .inl (cA, n, .inr (.inl g)))) :=
  xset hP hD ha (fun q => by
    show H[a]? = some (arrV cA n (fun j => .long (g j)))
    rw [xarr (U := fun j => .long (f j)) (fun j hj => by rw [h j hj])]
    exact q)
theorem xcongq {D : va_G} {A : Nat → Prop} {ws : va_W} {H : Heap} {q0 a n : Nat} {cA : ClassId} {f : Nat → Option Nat} (g : Nat → Option Nat) (hP : va_P D vwCl ws H) (hD : va_D A ws) (ha : ws[q0]? = some (a, .inl (cA, n, .inr (.inr (.inr (.inr f)))))) (h : ∀ j, j < n → g j = f j) : va_P D vwCl (ws.set q0 (a, .inl (cA, n, .inr (.inr (.inr (.inr g)))))) H ∧ va_D A (ws.set q0 (a, .inl (cA, n, .inr (.inr (.inr (.inr g)))))) :=
  xset hP hD ha (fun q => by
    show H[a]? = some (arrV cA n (fun j => va_rf (g j)))
    rw [xarr (U := fun j => va_rf (f j)) (fun j hj => by rw [h j hj])]
    exact q)
