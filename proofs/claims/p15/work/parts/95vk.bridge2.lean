theorem sayR_rel {be n : Nat} {nf kf lf f : Nat → Int32} {s : Nat → Nat → Nat} {a j : Nat} (hr : relA be nf kf lf f s) (ha : a < 8) (hj : j < 8) (v : Int32) (hv : ¬ v = -1) : sayR f a j = v ↔ hasB (lf a) j ∧ sayF (kf j) (colF (nf (0 + j))) (colF (nf (0 + a))) = v := by
  obtain ⟨a1, a2, a3, a4, a5⟩ := hr a ha
  obtain ⟨j1, j2, j3, j4, j5⟩ := hr j hj
  rw [Nat.zero_add, Nat.zero_add, a1.col, j1.col, say_eq j3.1 a3.1]
  unfold sayR
  by_cases q : hasB (f (56 + a)) j
  · rw [if_pos q, j2.1, a2.1, j4]
    exact ⟨fun z => ⟨(a5 j hj).mpr q, z⟩, fun z => z.2⟩
  · rw [if_neg q]
    exact ⟨fun z => absurd z.symm hv, fun z => absurd ((a5 j hj).mp z.1) q⟩
theorem blk_rel {be n : Nat} {nf kf lf f : Nat → Int32} {s : Nat → Nat → Nat} {a j : Nat} {S y1 y2 y3 : Int32} (hr : relA be nf kf lf f s) (ha : a < 8) (hj : j < 8) (hja : ¬ j = a) (hlis : lisI n a lf kf nf 0 y1 y2 y3) : (j < n ∧ hasB (y3 &&& S) j) ↔ (j < n ∧ hasB S j ∧ hasB (f (56 + a)) j ∧ f (48 + j) = 0 ∧ f (0 + j) < 0) := by
  obtain ⟨a1, a2, a3, a4, a5⟩ := hr a ha
  obtain ⟨j1, j2, j3, j4, j5⟩ := hr j hj
  rw [hasB_and (by omega), (hlis j (by omega)).2.2]
  have hj0 := j2.1
  rw [Nat.zero_add] at hj0
  unfold blkP
  rw [Nat.zero_add, j1.col, cI_m1 j3.1, hj0, cI_neg j3.1, ← j4, ← (a5 j hj)]
  constructor
  · rintro ⟨q1, ⟨_, _, q2, q3, q4⟩, q5⟩; exact ⟨q1, q5, q2, q3, q4⟩
  · rintro ⟨q1, q2, q3, q4, q5⟩; exact ⟨q1, ⟨q1, hja, q3, q4, q5⟩, q2⟩
theorem ask_bridge {be n k al : Nat} {pr r : Int32} {nf kf lf f nz fz : Nat → Int32} {s : Nat → Nat → Nat} {a : Nat} {S y1 y2 y3 : Int32} (hr : relA be nf kf lf f s) (ha : a < n) (hn : n ≤ 8) (hal : al ≤ 8) (hbe : 1 ≤ be ∧ be ≤ 15) (h2 : k < 2 * al) (hc : s a 0 = 1 ∨ s a 0 = 2) (hd : s a 5 = 0)
    (hS : ∀ j, j < 32 → hasB S j → j < n ∧ ¬ j = a) (hk : cntL S 16 = k) (hlis : lisI n a lf kf nf 0 y1 y2 y3)
    (hcl : ∀ j, j < 32 → nz j = upd (givF n (y3 &&& S) (colF (nf a)) nf) a (setF pr be (nf a) (winF al (bcF (S &&& y2)) (bcF (S &&& y1)))) j)
    (hm : ∃ (g : Nat → Int32) (z o : Nat), askI f S a n g z o ∧ (∀ j, 8 ≤ j → g j = f j) ∧ rowU fz a (uSet pr be (winU al z o) (s a)) ∧ r = nI (ansU (s a) (uSet pr be (winU al z o) (s a))) ∧ (∀ j, ¬ j = 0 + a → ¬ j = 8 + a → ¬ j = 16 + a → ¬ j = 24 + a → ¬ j = 32 + a → ¬ j = 40 + a → fz j = g j)) :
    r = chgF (nf a) (nz a) ∧ ∃ s' : Nat → Nat → Nat, relA be nz kf lf fz s' := by
  obtain ⟨g, z, o, hL, hup, hfz, hrr, hoth⟩ := hm
  have ha8 : a < 8 := by omega
  have ra := hr a ha8
  obtain ⟨a1, a2, a3, a4, a5⟩ := ra
  have hna := a2.neg hc
  have hT : ∀ (v y : Int32), ¬ v = -1 → (∀ j, j < 32 → (hasB y j ↔ j < n ∧ lisP a lf kf nf 0 v j)) → ∀ j, j < 16 → (hasB (S &&& y) j ↔ j < n ∧ hasB S j ∧ sayR f a j = v) := fun v y hv hy j hj => by
    rw [hasB_and (by omega), hy j (by omega)]
    constructor
    · rintro ⟨q1, q2, q3, q4, q5⟩
      exact ⟨q2, q1, (sayR_rel (n := n) hr ha8 (by omega) v hv).mpr ⟨q4, q5⟩⟩
    · rintro ⟨q1, q2, q3⟩
      have w := (sayR_rel (n := n) hr ha8 (by omega) v hv).mp q3
      exact ⟨q2, q1, (hS j (by omega) q2).2, w.1, w.2⟩
  have hT0 := hT (nI 0) y1 (by decide) (fun j hj => (hlis j hj).1)
  have hT1 := hT (nI 1) y2 (by decide) (fun j hj => (hlis j hj).2.1)
  have hcnt := askL_cnt ha8 hna hn hT0 hT1 n (Nat.le_refl n)
  have hLe : askL f S a n = (g, z, o) := hL
  rw [hLe] at hcnt
  have e0 : z = cntL (S &&& y1) 16 := by
    have q := hcnt.1
    rw [cnt_hi (T := S &&& y1) (n := n) (fun j hj w => ((hT0 j hj).mp w).1) (16 - n) (Nat.le_refl _)] at q
    exact q
  have e1 : o = cntL (S &&& y2) 16 := by
    have q := hcnt.2
    rw [cnt_hi (T := S &&& y2) (n := n) (fun j hj w => ((hT1 j hj).mp w).1) (16 - n) (Nat.le_refl _)] at q
    exact q
  have hsum : z + o ≤ k := by
    rw [e0, e1, ← hk]
    exact cnt_two (fun j hj w => ((hT0 j hj).mp w).2.1) (fun j hj w => ((hT1 j hj).mp w).2.1) (fun j hj w w2 => by
      have q1 := ((hT0 j hj).mp w).2.2
      have q2 := ((hT1 j hj).mp w2).2.2
      rw [q1] at q2
      exact absurd q2 (by decide)) 16 (Nat.le_refl _)
  have hb : ∀ y : Int32, bcF (S &&& y) = nI (cntL (S &&& y) 16) := fun y => bc_cnt (fun j hj1 hj2 w => by
    have := (hS j hj2 ((hasB_and hj2).mp w).1).1
    omega)
  have hw : winF al (bcF (S &&& y2)) (bcF (S &&& y1)) = cI (winU al z o) := by
    rw [hb, hb, ← e0, ← e1]
    exact win_eq (by have := cnt_le (S &&& y1) 16; omega) (by have := cnt_le (S &&& y2) 16; omega) hal hsum h2
  have hW3 : winU al z o < 3 := by unfold winU; split <;> (try split) <;> omega
  have hnza : nz a = setF pr be (nf a) (cI (winU al z o)) := by
    rw [hcl a (by omega), ← hw]
    unfold upd
    rw [if_pos rfl]
  have hUa : isU (nz a) (uSet pr be (winU al z o) (s a)) := by
    rw [hnza]
    exact a1.set hW3 hc a3.2.1 (a3.2.2.2.2.2.2 hd) hbe.2 a3.2.2.2.1 a3.2.2.2.2.1
  have hok := uSet_ok (pr := pr) hW3 hbe a3 hc hd
  obtain ⟨s', hs'⟩ : ∃ s' : Nat → Nat → Nat, s' = fun j => if j = a then uSet pr be (winU al z o) (s a) else if j < n ∧ hasB (y3 &&& S) j then setU (s j) 0 (s a 0) else s j := ⟨_, rfl⟩
  refine ⟨by rw [hrr, a1.chg hUa a3.1 hok.1.1], s', fun j hj => ?_⟩
  obtain ⟨j1, j2, j3, j4, j5⟩ := hr j hj
  have hrow : ∀ j, g j = if j < 8 then givM f S a n j else f j := fun j => by
    have w := askL_row (S := S) ha8 hna n hn j
    rw [hLe] at w
    exact w
  have hfar : ∀ i, 48 ≤ i → fz i = f i := fun i hi => by
    rw [hoth i (by omega) (by omega) (by omega) (by omega) (by omega) (by omega), hup i (by omega)]
  have hkl : kf j = fz (48 + j) ∧ ∀ k, k < 8 → (hasB (lf j) k ↔ hasB (fz (56 + j)) k) := by
    rw [hfar _ (by omega), hfar _ (by omega)]
    exact ⟨j4, j5⟩
  by_cases q : j = a
  · subst q
    have hsj : s' j = uSet pr be (winU al z o) (s j) := by rw [hs']; exact if_pos rfl
    unfold relN
    rw [hsj]
    exact ⟨hUa, hfz, hok.1, hkl.1, hkl.2⟩
  · have hnzj : nz j = givF n (y3 &&& S) (colF (nf a)) nf j := by
      rw [hcl j (by omega)]
      unfold upd
      rw [if_neg q]
    have hfj : ∀ t, t ≤ 5 → 1 ≤ t → fz (8 * t + j) = f (8 * t + j) := fun t ht h1 => by
      rw [hoth _ (by omega) (by omega) (by omega) (by omega) (by omega) (by omega), hup _ (by omega)]
    have hf0 : fz (0 + j) = givM f S a n (0 + j) := by
      rw [hoth _ (by omega) (by omega) (by omega) (by omega) (by omega) (by omega), hrow, if_pos (by omega)]
    rw [Nat.zero_add] at hf0
    unfold relN
    by_cases c : j < n ∧ hasB (y3 &&& S) j
    · have hsj : s' j = setU (s j) 0 (s a 0) := by rw [hs']; exact (if_neg q).trans (if_pos c)
      rw [hsj]
      have cm := (blk_rel (S := S) hr ha8 hj q hlis).mp c
      refine ⟨?_, ?_, ?_, hkl.1, hkl.2⟩
      · rw [hnzj]
        unfold givF
        rw [if_pos c, a1.col]
        exact j1.c a3.1
      · refine ⟨?_, ?_, ?_, ?_, ?_, ?_⟩
        · show fz (0 + j) = cI (s a 0)
          rw [Nat.zero_add, hf0]
          unfold givM
          rw [if_pos cm]
          exact a2.1
        · exact (hfj 1 (by decide) (by decide)).trans j2.2.1
        · exact (hfj 2 (by decide) (by decide)).trans j2.2.2.1
        · exact (hfj 3 (by decide) (by decide)).trans j2.2.2.2.1
        · exact (hfj 4 (by decide) (by decide)).trans j2.2.2.2.2.1
        · exact (hfj 5 (by decide) (by decide)).trans j2.2.2.2.2.2
      · exact ⟨a3.1, j3.2.1, j3.2.2.1, j3.2.2.2.1, j3.2.2.2.2.1, j3.2.2.2.2.2.1, j3.2.2.2.2.2.2⟩
    · have hsj : s' j = s j := by rw [hs']; exact (if_neg q).trans (if_neg c)
      rw [hsj]
      have cm : ¬ (j < n ∧ hasB S j ∧ hasB (f (56 + a)) j ∧ f (48 + j) = 0 ∧ f (0 + j) < 0) := fun w => c ((blk_rel (S := S) hr ha8 hj q hlis).mpr w)
      refine ⟨?_, ?_, j3, hkl.1, hkl.2⟩
      · rw [hnzj]
        unfold givF
        rw [if_neg c]
        exact j1
      · refine ⟨?_, ?_, ?_, ?_, ?_, ?_⟩
        · rw [Nat.zero_add, hf0]
          unfold givM
          rw [if_neg cm]
          have := j2.1
          rw [Nat.zero_add] at this
          exact this
        · exact (hfj 1 (by decide) (by decide)).trans j2.2.1
        · exact (hfj 2 (by decide) (by decide)).trans j2.2.2.1
        · exact (hfj 3 (by decide) (by decide)).trans j2.2.2.2.1
        · exact (hfj 4 (by decide) (by decide)).trans j2.2.2.2.2.1
        · exact (hfj 5 (by decide) (by decide)).trans j2.2.2.2.2.2
