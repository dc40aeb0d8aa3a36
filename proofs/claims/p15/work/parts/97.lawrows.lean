theorem perm_pick {α : Type} (F : Nat → List α) {i : Nat} : ∀ (l : List Nat), l.Nodup → i ∈ l → (l.flatMap F).Perm (F i ++ (l.filter (fun j => decide (j ≠ i))).flatMap F)
  | [], _, h => absurd h List.not_mem_nil
  | a :: t, hn, h => by
    rw [List.nodup_cons] at hn
    by_cases q : a = i
    · subst q
      have e : t.filter (fun j => decide (j ≠ a)) = t := List.filter_eq_self.mpr fun x hx => by
        have : x ≠ a := fun z => hn.1 (z ▸ hx)
        simp [this]
      rw [List.flatMap_cons, List.filter_cons_of_neg (by simp), e]
    · have hi : i ∈ t := (List.mem_cons.mp h).resolve_left (fun z => q z.symm)
      rw [List.flatMap_cons, List.filter_cons_of_pos (by simp [q]), List.flatMap_cons]
      refine ((perm_pick F t hn.2 hi).append_left (F a)).trans ?_
      rw [← List.append_assoc, ← List.append_assoc]
      exact (List.perm_append_comm).append_right _
theorem flat_same {α : Type} {F G : Nat → List α} {i : Nat} (h : ∀ j, j ≠ i → F j = G j) : ∀ (l : List Nat), (l.filter (fun j => decide (j ≠ i))).flatMap F = (l.filter (fun j => decide (j ≠ i))).flatMap G
  | [] => rfl
  | a :: t => by
    by_cases q : a = i
    · rw [List.filter_cons_of_neg (by simp [q])]; exact flat_same h t
    · rw [List.filter_cons_of_pos (by simp [q]), List.flatMap_cons, List.flatMap_cons, flat_same h t, h a q]
/-- eight rows, one of them first -/
theorem rows_pick {α : Type} (F : Nat → List α) {i : Nat} (hi : i < 8) : ((List.range 8).flatMap F).Perm (F i ++ ((List.range 8).filter (fun j => decide (j ≠ i))).flatMap F) := perm_pick F _ List.nodup_range (List.mem_range.mpr hi)
/-- eight rows, one of them new -/
theorem rows_put {α : Type} {F G : Nat → List α} {i : Nat} (hi : i < 8) (h : ∀ j, j ≠ i → F j = G j) : (G i ++ ((List.range 8).filter (fun j => decide (j ≠ i))).flatMap F).Perm ((List.range 8).flatMap G) := by
  rw [flat_same h]
  exact (rows_pick G hi).symm

def GRL (cs : Nat → ClassId) (g1 pn pk pl pw : Nat) (pv ps : Nat → Nat) (pnf pkf plf pch ppo : Nat → Int32) (pse : Nat → Nat → Int32) : va_W := [(g1, .inr (4, [.ref pn, .ref pk, .ref pl, .ref pw])), (pn, .inl (cs 0, 8, .inl pnf)), (pk, .inl (cs 0, 8, .inl pkf)), (pl, .inl (cs 0, 8, .inl plf)), (pw, .inl (cs 2, 8, .inr (.inr (.inr (.inr (fun i => some (pv i))))))), (pv 0, .inr (10, [.int (pch 0), .int (ppo 0), .ref (ps 0)])), (ps 0, .inl (cs 0, 32, .inl (pse 0))), (pv 1, .inr (10, [.int (pch 1), .int (ppo 1), .ref (ps 1)])), (ps 1, .inl (cs 0, 32, .inl (pse 1))), (pv 2, .inr (10, [.int (pch 2), .int (ppo 2), .ref (ps 2)])), (ps 2, .inl (cs 0, 32, .inl (pse 2))), (pv 3, .inr (10, [.int (pch 3), .int (ppo 3), .ref (ps 3)])), (ps 3, .inl (cs 0, 32, .inl (pse 3))), (pv 4, .inr (10, [.int (pch 4), .int (ppo 4), .ref (ps 4)])), (ps 4, .inl (cs 0, 32, .inl (pse 4))), (pv 5, .inr (10, [.int (pch 5), .int (ppo 5), .ref (ps 5)])), (ps 5, .inl (cs 0, 32, .inl (pse 5))), (pv 6, .inr (10, [.int (pch 6), .int (ppo 6), .ref (ps 6)])), (ps 6, .inl (cs 0, 32, .inl (pse 6))), (pv 7, .inr (10, [.int (pch 7), .int (ppo 7), .ref (ps 7)])), (ps 7, .inl (cs 0, 32, .inl (pse 7)))]
def PAC (cs : Nat → ClassId) (pa : Nat) (paf : Nat → Option Nat) : Nat × va_E := (pa, .inl (cs 3, 8, .inr (.inr (.inr (.inr paf)))))
def PAL (cs : Nat → ClassId) (pa : Nat) (paf : Nat → Option Nat) (pg pn pk pl pw : Nat → Nat) (pv ps : Nat → Nat → Nat) (c1 c2 c3 c4 c5 : Nat → Nat → Int32) (c6 : Nat → Nat → Nat → Int32) : va_W := PAC cs pa paf :: (List.range 8).flatMap (fun i => GRL cs (pg i) (pn i) (pk i) (pl i) (pw i) (pv i) (ps i) (c1 i) (c2 i) (c3 i) (c4 i) (c5 i) (c6 i))
theorem PAL_pick (cs : Nat → ClassId) (pa : Nat) (paf : Nat → Option Nat) (pg pn pk pl pw : Nat → Nat) (pv ps : Nat → Nat → Nat) (c1 c2 c3 c4 c5 : Nat → Nat → Int32) (c6 : Nat → Nat → Nat → Int32) {i : Nat} (hi : i < 8) :
    ∃ wr : va_W, (PAL cs pa paf pg pn pk pl pw pv ps c1 c2 c3 c4 c5 c6).Perm (PAC cs pa paf :: GRL cs (pg i) (pn i) (pk i) (pl i) (pw i) (pv i) (ps i) (c1 i) (c2 i) (c3 i) (c4 i) (c5 i) (c6 i) ++ wr) ∧
      ∀ (d1 d2 d3 d4 d5 : Nat → Int32) (d6 : Nat → Nat → Int32), (PAC cs pa paf :: GRL cs (pg i) (pn i) (pk i) (pl i) (pw i) (pv i) (ps i) d1 d2 d3 d4 d5 d6 ++ wr).Perm
        (PAL cs pa paf pg pn pk pl pw pv ps (fun j => if j = i then d1 else c1 j) (fun j => if j = i then d2 else c2 j) (fun j => if j = i then d3 else c3 j) (fun j => if j = i then d4 else c4 j) (fun j => if j = i then d5 else c5 j) (fun j => if j = i then d6 else c6 j)) := by
  refine ⟨((List.range 8).filter (fun j => decide (j ≠ i))).flatMap (fun i => GRL cs (pg i) (pn i) (pk i) (pl i) (pw i) (pv i) (ps i) (c1 i) (c2 i) (c3 i) (c4 i) (c5 i) (c6 i)), ?_, fun d1 d2 d3 d4 d5 d6 => ?_⟩
  · exact List.Perm.cons _ (rows_pick (fun i => GRL cs (pg i) (pn i) (pk i) (pl i) (pw i) (pv i) (ps i) (c1 i) (c2 i) (c3 i) (c4 i) (c5 i) (c6 i)) hi)
  · refine List.Perm.cons _ ?_
    have h := rows_put (F := fun i => GRL cs (pg i) (pn i) (pk i) (pl i) (pw i) (pv i) (ps i) (c1 i) (c2 i) (c3 i) (c4 i) (c5 i) (c6 i)) (G := fun j => GRL cs (pg j) (pn j) (pk j) (pl j) (pw j) (pv j) (ps j) (if j = i then d1 else c1 j) (if j = i then d2 else c2 j) (if j = i then d3 else c3 j) (if j = i then d4 else c4 j) (if j = i then d5 else c5 j) (if j = i then d6 else c6 j)) hi (fun j hj => by simp only [if_neg hj])
    simp only [if_true] at h
    exact h
