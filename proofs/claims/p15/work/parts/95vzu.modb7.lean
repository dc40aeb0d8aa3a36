theorem lg_cmp0 {x y : Int64} (h : x = y) : lg_cmp x y = 0 := by
  subst h
  unfold lg_cmp
  rw [if_neg (fun q => Int64.lt_irrefl q), if_pos rfl]
theorem permLast {α : Type} {w wm : List α} {o : α} : (w ++ (wm ++ [o])).Perm (o :: (w ++ wm)) := by
  rw [← List.append_assoc]
  exact List.perm_append_comm
