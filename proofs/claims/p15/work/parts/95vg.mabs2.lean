theorem bpU_ne (W : Nat) (u : Nat → Nat) {i : Nat} (h : ¬ i = 2 + W) : (bpU W u) i = u i := by unfold bpU; rw [setU_ne _ _ h]
theorem bcU_ne (W : Nat) (u : Nat → Nat) {i : Nat} (h : ¬ i = 2 + W) (h0 : ¬ i = 0) : (bcU W u) i = u i := by
  unfold bcU
  split
  · rw [setU_ne _ _ h0]; exact bpU_ne W u h
  · exact bpU_ne W u h
theorem bcU_0 (W : Nat) (u : Nat → Nat) : (bcU W u) 0 = u 0 ∨ (bcU W u) 0 = W := by
  unfold bcU
  split
  · right; rfl
  · left; exact bpU_ne W u (by omega)
theorem bcU_c (W : Nat) (u : Nat → Nat) {i : Nat} (h0 : ¬ i = 0) (h : u i ≤ 999) : (bcU W u) i ≤ 999 := by
  have b : (bpU W u) i ≤ 999 := by
    unfold bpU setU
    split
    · split <;> omega
    · exact h
  unfold bcU
  split
  · rw [setU_ne _ _ h0]; exact b
  · exact b
theorem cntU_b {pr : Int32} {W : Nat} {u : Nat → Nat} (hW : ¬ W = 0) (h : pr = nI 2) : cntU pr W u = balU W u := by
  unfold cntU nxtU
  rw [if_neg hW, h, if_neg (by decide)]
theorem cntU_f {pr : Int32} {W : Nat} {u : Nat → Nat} (hW : ¬ W = 0) (h : pr = nI 1) : cntU pr W u = flkU W u := by
  unfold cntU nxtU
  rw [if_neg hW, if_pos h]
theorem uSet_m {pr : Int32} {be W : Nat} {u : Nat → Nat} (h : ¬ pr = 0) (hb : 1 ≤ be) : uSet pr be W u = if (cntU pr W u) 2 < be then cntU pr W u else setU (cntU pr W u) 5 1 := by
  unfold uSet cntU
  rw [if_neg h]
  by_cases w : W = 0
  · rw [if_pos w, if_pos w, if_pos (show (setU u 2 0) 2 < be by rw [setU_eq]; omega)]
  · rw [if_neg w, if_neg w]
theorem nxtU_ok {pr : Int32} {W : Nat} {u : Nat → Nat} (hW : W = 1 ∨ W = 2) (h0 : u 0 = 1 ∨ u 0 = 2) (h1 : u 1 < 3) (h2 : u 2 < 15) (h3 : u 3 ≤ 999) (h4 : u 4 ≤ 999) : ((nxtU pr W u) 0 = 1 ∨ (nxtU pr W u) 0 = 2) ∧ (nxtU pr W u) 1 < 3 ∧ (nxtU pr W u) 2 ≤ 15 ∧ (nxtU pr W u) 3 ≤ 999 ∧ (nxtU pr W u) 4 ≤ 999 ∧ (nxtU pr W u) 5 = u 5 := by
  unfold nxtU
  split
  · unfold flkU
    split
    · exact ⟨h0, h1, show u 2 + 1 ≤ 15 by omega, h3, h4, rfl⟩
    · exact ⟨hW, h1, show 1 ≤ 15 by decide, h3, h4, rfl⟩
  · have c0 : (bcU W u) 0 = 1 ∨ (bcU W u) 0 = 2 := by
      rcases bcU_0 W u with q | q <;> rw [q]
      · exact h0
      · exact hW
    have c1 : (bcU W u) 1 = u 1 := bcU_ne W u (by omega) (by decide)
    have c2 : (bcU W u) 2 = u 2 := bcU_ne W u (by omega) (by decide)
    have c5 : (bcU W u) 5 = u 5 := bcU_ne W u (by omega) (by decide)
    have c3 := bcU_c W u (i := 3) (by decide) h3
    have c4 := bcU_c W u (i := 4) (by decide) h4
    unfold balU
    split
    · exact ⟨c0, by show (bcU W u) 1 < 3; omega, show (bcU W u) 2 + 1 ≤ 15 by omega, c3, c4, c5⟩
    · exact ⟨c0, by show W < 3; omega, show 1 ≤ 15 by decide, c3, c4, c5⟩
theorem uSet_ok {pr : Int32} {be W : Nat} {u : Nat → Nat} (hW : W < 3) (hb : 1 ≤ be ∧ be ≤ 15) (h : okU be u) (h0 : u 0 = 1 ∨ u 0 = 2) (h5 : u 5 = 0) : okU be (uSet pr be W u) ∧ ((uSet pr be W u) 0 = 1 ∨ (uSet pr be W u) 0 = 2) := by
  obtain ⟨g0, g1, g2, g3, g4, g5, g6⟩ := h
  have g7 := g6 h5
  unfold uSet
  by_cases p : pr = 0
  · rw [if_pos p]
    by_cases w : W = 0
    · rw [if_pos w]; exact ⟨⟨g0, g1, g2, g3, g4, g5, g6⟩, h0⟩
    · rw [if_neg w]
      have hW2 : W = 1 ∨ W = 2 := by omega
      exact ⟨⟨by show W < 3; exact hW, g1, g2, g3, g4, g5, g6⟩, hW2⟩
  · rw [if_neg p]
    by_cases w : W = 0
    · rw [if_pos w]; exact ⟨⟨g0, g1, by show 0 ≤ 15; decide, g3, g4, g5, fun _ => by show 0 < be; omega⟩, h0⟩
    · rw [if_neg w]
      have hW2 : W = 1 ∨ W = 2 := by omega
      obtain ⟨n0, n1, n2, n3, n4, n5⟩ := nxtU_ok (pr := pr) hW2 h0 g1 (by omega) g3 g4
      by_cases q : (nxtU pr W u) 2 < be
      · rw [if_pos q]; exact ⟨⟨by omega, n1, n2, n3, n4, by omega, fun _ => q⟩, n0⟩
      · rw [if_neg q]; exact ⟨⟨by show (nxtU pr W u) 0 < 3; omega, n1, n2, n3, n4, by show 1 < 2; decide, fun z => absurd z (show ¬ (1 : Nat) = 0 by decide)⟩, n0⟩
theorem rowU.say {g : Nat → Int32} {a o : Nat} {u : Nat → Nat} (h : rowU g a u) (ha : a < 8) (ho : o < 8) (hna : ¬ g (0 + a) < 0) : rowU (sayG g a o) a u := by
  unfold sayG
  split
  · rename_i c
    have hne : ¬ o = a := fun z => hna (by rw [← z]; exact c.2.2)
    obtain ⟨h0, h1, h2, h3, h4, h5⟩ := h
    unfold rowU upd
    exact ⟨(if_neg (by omega)).trans h0, (if_neg (by omega)).trans h1, (if_neg (by omega)).trans h2, (if_neg (by omega)).trans h3, (if_neg (by omega)).trans h4, (if_neg (by omega)).trans h5⟩
  · exact h
theorem sayG_hi {f g : Nat → Int32} {a o : Nat} (ho : o < 8) (h : ∀ j, 8 ≤ j → g j = f j) : ∀ j, 8 ≤ j → sayG g a o j = f j := fun j hj => by
  unfold sayG
  split
  · unfold upd; rw [if_neg (by omega)]; exact h j hj
  · exact h j hj
theorem rowU.neg {g : Nat → Int32} {a : Nat} {u : Nat → Nat} (h : rowU g a u) (h0 : u 0 = 1 ∨ u 0 = 2) : ¬ g (0 + a) < 0 := by
  rw [h.1]
  rcases h0 with q | q <;> rw [q] <;> decide
theorem ans_2 {g : Nat → Int32} {a : Nat} {u v : Nat → Nat} (h : rowU g a v) (h5 : v 5 < 2) (c : g (40 + a) = nI 1) : nI 2 = nI (ansU u v) := by
  have e := h.2.2.2.2.2
  rw [c] at e
  have : v 5 = 1 := ((nI_eq (by decide) (by omega)).mp e).symm
  unfold ansU
  rw [if_neg (by omega)]
theorem ans_n {g : Nat → Int32} {a : Nat} {v : Nat → Nat} (h : rowU g a v) (h5 : v 5 < 2) (c : ¬ g (40 + a) = nI 1) : v 5 = 0 := by
  have e := h.2.2.2.2.2
  rcases (show v 5 = 0 ∨ v 5 = 1 by omega) with q | q
  · exact q
  · rw [q] at e; exact absurd e c
theorem ans_0 {g f : Nat → Int32} {a : Nat} {u v : Nat → Nat} (h : rowU g a v) (k : rowU f a u) (h5 : v 5 < 2) (h0 : v 0 < 3) (k0 : u 0 < 3) (c : ¬ g (40 + a) = nI 1) (e : g (0 + a) = f (0 + a)) : nI 0 = nI (ansU u v) := by
  have z := ans_n h h5 c
  rw [h.1, k.1] at e
  unfold ansU
  rw [if_pos z, if_pos (cI_inj h0 k0 e).symm]
theorem ans_1 {g f : Nat → Int32} {a : Nat} {u v : Nat → Nat} (h : rowU g a v) (k : rowU f a u) (h5 : v 5 < 2) (c : ¬ g (40 + a) = nI 1) (e : ¬ g (0 + a) = f (0 + a)) : nI 1 = nI (ansU u v) := by
  have z := ans_n h h5 c
  rw [h.1, k.1] at e
  unfold ansU
  rw [if_pos z, if_neg (fun q => e (by rw [q]))]
