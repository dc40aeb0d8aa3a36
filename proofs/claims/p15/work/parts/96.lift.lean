theorem pP_iff {D : va_G} {cl : List vw_C} {ws : va_W} {H : Heap} : va_P D cl ws H ↔ ∀ q ∈ ws, va_at D cl q H :=
  ⟨fun h q hq => by obtain ⟨k, hk⟩ := List.getElem?_of_mem hq; exact h k q hk, fun h k q hk => h q (List.mem_of_getElem? hk)⟩
theorem pD_iff {A : Nat → Prop} {ws : va_W} : va_D A ws ↔ (ws.map Prod.fst).Nodup ∧ ∀ q ∈ ws, A q.1 := by
  have key : (ws.map Prod.fst).Nodup ↔ ∀ (i j : Nat) (hi : i < ws.length) (hj : j < ws.length), i < j → (ws[i]).1 ≠ (ws[j]).1 := by
    rw [List.nodup_iff_pairwise_ne, List.pairwise_iff_getElem]
    constructor
    · intro h i j hi hj hij
      have := h i j (by rw [List.length_map]; exact hi) (by rw [List.length_map]; exact hj) hij
      rw [List.getElem_map, List.getElem_map] at this
      exact this
    · intro h i j hi hj hij
      rw [List.length_map] at hi hj
      rw [List.getElem_map, List.getElem_map]
      exact h i j hi hj hij
  rw [key]
  constructor
  · intro h
    exact ⟨fun i j hi hj hij e => by
      have := h.1 i j _ _ (List.getElem?_eq_getElem hi) (List.getElem?_eq_getElem hj) e
      omega, fun q hq => by obtain ⟨k, hk⟩ := List.getElem?_of_mem hq; exact h.2 k q hk⟩
  · rintro ⟨hn, hA⟩
    refine ⟨fun i j p q hp hq e => ?_, fun k q hk => hA q (List.mem_of_getElem? hk)⟩
    obtain ⟨hi, rfl⟩ := List.getElem?_eq_some_iff.mp hp
    obtain ⟨hj, rfl⟩ := List.getElem?_eq_some_iff.mp hq
    rcases Nat.lt_trichotomy i j with g | g | g
    · exact absurd e (hn i j hi hj g)
    · exact g
    · exact absurd e.symm (hn j i hj hi g)
theorem pP_perm {D : va_G} {cl : List vw_C} {ws ws' : va_W} {H : Heap} (hp : ws.Perm ws') (h : va_P D cl ws H) : va_P D cl ws' H := pP_iff.mpr fun q hq => pP_iff.mp h q (hp.mem_iff.mpr hq)
theorem pD_perm {A : Nat → Prop} {ws ws' : va_W} (hp : ws.Perm ws') (h : va_D A ws) : va_D A ws' := by
  rw [pD_iff] at h ⊢
  exact ⟨(hp.map Prod.fst).nodup h.1, fun q hq => h.2 q (hp.mem_iff.mpr hq)⟩
theorem pA_perm {ws ws' : va_W} {sz : Nat} {q : Nat} (hp : ws.Perm ws') (h : va_A ws sz q) : va_A ws' sz q := by
  rcases h with ⟨k, e, h⟩ | h
  · obtain ⟨k2, h2⟩ := List.getElem?_of_mem (hp.mem_iff.mp (List.mem_of_getElem? h))
    exact Or.inl ⟨k2, e, h2⟩
  · exact Or.inr h
/-- behind a method that changed wc's cells alone: wr's -/
theorem pJoin {D : va_G} {cl : List vw_C} {wc wr w1 : va_W} {H H1 : Heap} (hP : va_P D cl (wc ++ wr) H) (hD : va_D (fun _ => True) (wc ++ wr)) (hk : ∀ q : Nat, q < H.size → ¬ va_A wc H.size q → H1[q]? = H[q]?) (hP1 : va_P D cl w1 H1) (hD1 : va_D (va_A wc H.size) w1) :
    va_P D cl (w1 ++ wr) H1 ∧ va_D (va_A (wc ++ wr) H.size) (w1 ++ wr) := by
  have hP' := pP_iff.mp hP
  have hD' := pD_iff.mp hD
  have hP1' := pP_iff.mp hP1
  have hD1' := pD_iff.mp hD1
  have apart : ∀ q ∈ wr, q.1 < H.size ∧ ¬ va_A wc H.size q.1 := by
    intro q hq
    have hl := (hP' q (List.mem_append_right _ hq)).lt
    refine ⟨hl, fun h => ?_⟩
    rcases h with ⟨k, e, h⟩ | h
    · have hn := hD'.1
      rw [List.map_append, List.nodup_append] at hn
      exact hn.2.2 q.1 (List.mem_map.mpr ⟨(q.1, e), List.mem_of_getElem? h, rfl⟩) q.1 (List.mem_map.mpr ⟨q, hq, rfl⟩) rfl
    · omega
  refine ⟨pP_iff.mpr fun q hq => ?_, pD_iff.mpr ⟨?_, fun q hq => ?_⟩⟩
  · rcases List.mem_append.mp hq with h | h
    · exact hP1' q h
    · obtain ⟨g1, g2⟩ := apart q h
      exact (hP' q (List.mem_append_right _ h)).kept (hk q.1 g1 g2)
  · rw [List.map_append, List.nodup_append]
    refine ⟨hD1'.1, ?_, ?_⟩
    · have hn := hD'.1
      rw [List.map_append, List.nodup_append] at hn
      exact hn.2.1
    · intro a ha b hb e
      obtain ⟨q1, h1, rfl⟩ := List.mem_map.mp ha
      obtain ⟨q2, h2, rfl⟩ := List.mem_map.mp hb
      exact (apart q2 h2).2 (by rw [← e]; exact hD1'.2 q1 h1)
  · rcases List.mem_append.mp hq with h | h
    · rcases hD1'.2 q h with ⟨k, e, g⟩ | g
      · obtain ⟨k2, h2⟩ := List.getElem?_of_mem (List.mem_append_left wr (List.mem_of_getElem? g))
        exact Or.inl ⟨k2, e, h2⟩
      · exact Or.inr g
    · obtain ⟨k2, h2⟩ := List.getElem?_of_mem (List.mem_append_right wc h)
      exact Or.inl ⟨k2, q.2, h2⟩
theorem pA_app {wc wr : va_W} {sz q : Nat} (h : va_A wc sz q) : va_A (wc ++ wr) sz q := by
  rcases h with ⟨k, e, g⟩ | g
  · obtain ⟨k2, h2⟩ := List.getElem?_of_mem (List.mem_append_left wr (List.mem_of_getElem? g))
    exact Or.inl ⟨k2, e, h2⟩
  · exact Or.inr g
section LIFT
variable {l : Launch} {D : va_G} {cs : Nat → ClassId} {y : MethodName} {cc : ByteArray} {nL : Nat} {ret : Option FieldType} {rm : Room} {av : List Value} {ws wc wr : va_W} {S S' : Type} {Wd : S → va_W} {Wd' : S' → va_W}
theorem xMet.lift0 {Qk Qk' : xQT} (hM : xMet l D cs y cc nL ret rm av wc Qk) (hp : (wc ++ wr).Perm ws)
    (hq : ∀ (sz : Nat) (a : Array Value) (st : State) (o : Outcome) (t : State), st.heap.size = sz → va_P D vwCl (wc ++ wr) st.heap → va_D (fun _ => True) (wc ++ wr) → Qk (va_A wc sz) a st o t → Qk' (va_A ws sz) a st o t) : xMet l D cs y cc nL ret rm av ws Qk' := by
  intro sz p e h1 h2 h3 s m args below h4 h5 h6 h7
  obtain ⟨rfl, hsz, hP, hK, hD⟩ := h6
  have hP0 := pP_perm hp.symm hP
  have hD0 := pD_perm hp.symm hD
  have hPc : va_P D vwCl wc s.heap := pP_iff.mpr fun q hq => pP_iff.mp hP0 q (List.mem_append_left _ hq)
  have hDc : va_D (fun _ => True) wc := pD_iff.mpr ⟨by have := (pD_iff.mp hD0).1; rw [List.map_append, List.nodup_append] at this; exact this.1, fun _ _ => trivial⟩
  obtain ⟨n, o, a1, a2, a3, a4, L, a5, a6⟩ := hM sz p e h1 h2 h3 s m _ below h4 h5 ⟨rfl, hsz, hPc, hK, hDc⟩ h7
  exact ⟨n, o, a1, a2, a3, hq sz _ _ _ _ hsz hP0 hD0 a4, L, a5, fun q hq => pA_perm hp (pA_app (a6 q hq))⟩
theorem pF {wc wr ws : va_W} {sz : Nat} {st t : State} (hp : (wc ++ wr).Perm ws) (h : va_F (va_A wc sz) st t) : va_F (va_A ws sz) st t := ⟨h.1, fun q h1 h2 => h.2 q h1 (fun z => h2 (pA_perm hp (pA_app z)))⟩
theorem pB {sz : Nat} {st t : State} {w1 ws' : va_W} (hsz : st.heap.size = sz) (hp : (wc ++ wr).Perm ws) (hP : va_P D vwCl (wc ++ wr) st.heap) (hD : va_D (fun _ => True) (wc ++ wr)) (hF : va_F (va_A wc sz) st t) (hP1 : va_P D vwCl w1 t.heap) (hD1 : va_D (va_A wc sz) w1) (hw : (w1 ++ wr).Perm ws') : va_P D vwCl ws' t.heap ∧ va_D (va_A ws sz) ws' := by
  subst hsz
  obtain ⟨g1, g2⟩ := pJoin hP hD (fun q h1 h2 => hF.2 q h1 h2) hP1 hD1
  refine ⟨pP_perm hw g1, pD_perm hw ?_⟩
  rw [pD_iff] at g2 ⊢
  exact ⟨g2.1, fun q hq => pA_perm hp (g2.2 q hq)⟩
theorem xMet.lift_i {post : Int32 → S → Prop} {post' : Int32 → S' → Prop} (hM : xMet l D cs y cc nL ret rm av wc (xQi D post Wd)) (hp : (wc ++ wr).Perm ws) (hq : ∀ r u, post r u → ∃ u', post' r u' ∧ (Wd u ++ wr).Perm (Wd' u')) : xMet l D cs y cc nL ret rm av ws (xQi D post' Wd') :=
  xMet.lift0 hM hp fun sz a st o t hsz hP hD h => by
    obtain ⟨⟨r, u, ho, hpo, hP1, hD1⟩, hF⟩ := h
    obtain ⟨u', hpo', hw⟩ := hq r u hpo
    exact ⟨⟨r, u', ho, hpo', pB hsz hp hP hD hF hP1 hD1 hw⟩, pF hp hF⟩
theorem xMet.lift_l {post : Int64 → S → Prop} {post' : Int64 → S' → Prop} (hM : xMet l D cs y cc nL ret rm av wc (xQl D post Wd)) (hp : (wc ++ wr).Perm ws) (hq : ∀ r u, post r u → ∃ u', post' r u' ∧ (Wd u ++ wr).Perm (Wd' u')) : xMet l D cs y cc nL ret rm av ws (xQl D post' Wd') :=
  xMet.lift0 hM hp fun sz a st o t hsz hP hD h => by
    obtain ⟨⟨r, u, ho, hpo, hP1, hD1⟩, hF⟩ := h
    obtain ⟨u', hpo', hw⟩ := hq r u hpo
    exact ⟨⟨r, u', ho, hpo', pB hsz hp hP hD hF hP1 hD1 hw⟩, pF hp hF⟩
theorem xMet.lift_v {post : S → Prop} {post' : S' → Prop} (hM : xMet l D cs y cc nL ret rm av wc (xQv D post Wd)) (hp : (wc ++ wr).Perm ws) (hq : ∀ u, post u → ∃ u', post' u' ∧ (Wd u ++ wr).Perm (Wd' u')) : xMet l D cs y cc nL ret rm av ws (xQv D post' Wd') :=
  xMet.lift0 hM hp fun sz a st o t hsz hP hD h => by
    obtain ⟨⟨u, ho, hpo, hP1, hD1⟩, hF⟩ := h
    obtain ⟨u', hpo', hw⟩ := hq u hpo
    exact ⟨⟨u', ho, hpo', pB hsz hp hP hD hF hP1 hD1 hw⟩, pF hp hF⟩
end LIFT
/-- a list by its places, each of them once: a permutation of it -/
theorem perm_take {α : Type} : ∀ (n : Nat) (ws : List α), ((List.range n).filterMap (fun i => ws[i]?)) = ws.take n
  | 0, ws => rfl
  | n + 1, ws => by
    rw [List.range_succ, List.filterMap_append, perm_take n ws, List.take_add_one]
    cases h : ws[n]? <;> simp [h]
theorem permIdx {α : Type} {ws ws' : List α} (is : List Nat) (hp : is.Perm (List.range ws.length)) (h : is.map (fun i => ws[i]?) = ws'.map some) : ws'.Perm ws := by
  have h1 : is.filterMap (fun i => ws[i]?) = ws' := by
    have := congrArg (fun z => z.filterMap id) h
    rw [List.filterMap_map, List.filterMap_map] at this
    exact Eq.trans this (show ws'.filterMap some = ws' from List.filterMap_some)
  have h2 := hp.filterMap (fun i => ws[i]?)
  rw [h1, perm_take, List.take_length] at h2
  exact h2
