/-! the search as both go through it: states are rows of the reference's form -/
def uOf (f : Nat → Int32) (a i : Nat) : Nat := if i = 0 then (f (0 + a) + nI 1).toNatClampNeg else if i = 1 then (f (8 + a) + nI 1).toNatClampNeg else if i < 6 then (f (8 * i + a)).toNatClampNeg else 0
theorem uOf_eq {be : Nat} {f : Nat → Int32} {a : Nat} {u : Nat → Nat} (h : rowU f a u) (k : okU be u) : ∀ i, i < 6 → uOf f a i = u i := fun i hi => by
  obtain ⟨h0, h1, h2, h3, h4, h5⟩ := h
  obtain ⟨k0, k1, k2, k3, k4, k5, _⟩ := k
  unfold uOf
  rcases (show i = 0 ∨ i = 1 ∨ i = 2 ∨ i = 3 ∨ i = 4 ∨ i = 5 by omega) with rfl | rfl | rfl | rfl | rfl | rfl
  · rw [if_pos rfl, h0, cI_add k0, nI_clamp (by omega)]
  · rw [if_neg (by decide), if_pos rfl, h1, cI_add k1, nI_clamp (by omega)]
  · rw [if_neg (by decide), if_neg (by decide), if_pos (by decide), show 8 * 2 + a = 16 + a from rfl, h2, nI_clamp (by omega)]
  · rw [if_neg (by decide), if_neg (by decide), if_pos (by decide), show 8 * 3 + a = 24 + a from rfl, h3, nI_clamp (by omega)]
  · rw [if_neg (by decide), if_neg (by decide), if_pos (by decide), show 8 * 4 + a = 32 + a from rfl, h4, nI_clamp (by omega)]
  · rw [if_neg (by decide), if_neg (by decide), if_pos (by decide), show 8 * 5 + a = 40 + a from rfl, h5, nI_clamp (by omega)]
theorem okU.same {be : Nat} {u v : Nat → Nat} (h : okU be u) (e : ∀ i, i < 6 → v i = u i) : okU be v := by
  unfold okU at *
  rw [e 0 (by decide), e 1 (by decide), e 2 (by decide), e 3 (by decide), e 4 (by decide), e 5 (by decide)]
  exact h
/-- every node of the row is one -/
def okS (be : Nat) (f : Nat → Int32) : Prop := ∀ j, j < 8 → rowU f j (uOf f j) ∧ okU be (uOf f j)
theorem okS.of {be : Nat} {f : Nat → Int32} (h : ∀ j, j < 8 → ∃ v, rowU f j v ∧ okU be v) : okS be f := fun j hj => by
  obtain ⟨v, h1, h2⟩ := h j hj
  exact ⟨h1.same (uOf_eq h1 h2), h2.same (uOf_eq h1 h2)⟩
theorem okS.rel {be : Nat} {nf kf lf f : Nat → Int32} {s : Nat → Nat → Nat} (h : relA be nf kf lf f s) : okS be f := okS.of (fun j hj => ⟨s j, (h j hj).2.1, (h j hj).2.2.1⟩)
/-- what an ask makes of a row -/
def askV (n al be : Nat) (pr : Int32) (f : Nat → Int32) (a : Nat) (S : Int32) : Nat → Nat := uSet pr be (winU al (askL f S a n).2.1 (askL f S a n).2.2) (uOf f a)
def putU (g : Nat → Int32) (a : Nat) (v : Nat → Nat) (j : Nat) : Int32 := if j = 0 + a then cI (v 0) else if j = 8 + a then cI (v 1) else if j = 16 + a then nI (v 2) else if j = 24 + a then nI (v 3) else if j = 32 + a then nI (v 4) else if j = 40 + a then nI (v 5) else g j
def askM (n al be : Nat) (pr : Int32) (f : Nat → Int32) (a : Nat) (S : Int32) : Nat → Int32 := putU (askL f S a n).1 a (askV n al be pr f a S)
theorem putU_row (g : Nat → Int32) (a : Nat) (v : Nat → Nat) : rowU (putU g a v) a v := by
  refine ⟨?_, ?_, ?_, ?_, ?_, ?_⟩ <;> unfold putU
  · rw [if_pos rfl]
  · rw [if_neg (by omega), if_pos rfl]
  · rw [if_neg (by omega), if_neg (by omega), if_pos rfl]
  · rw [if_neg (by omega), if_neg (by omega), if_neg (by omega), if_pos rfl]
  · rw [if_neg (by omega), if_neg (by omega), if_neg (by omega), if_neg (by omega), if_pos rfl]
  · rw [if_neg (by omega), if_neg (by omega), if_neg (by omega), if_neg (by omega), if_neg (by omega), if_pos rfl]
theorem putU_oth (g : Nat → Int32) (a : Nat) (v : Nat → Nat) : ∀ j, ¬ j = 0 + a → ¬ j = 8 + a → ¬ j = 16 + a → ¬ j = 24 + a → ¬ j = 32 + a → ¬ j = 40 + a → putU g a v j = g j := fun j h0 h1 h2 h3 h4 h5 => by
  unfold putU
  rw [if_neg h0, if_neg h1, if_neg h2, if_neg h3, if_neg h4, if_neg h5]
theorem putU_uniq {g fz : Nat → Int32} {a : Nat} {v : Nat → Nat} (h : rowU fz a v) (ho : ∀ j, ¬ j = 0 + a → ¬ j = 8 + a → ¬ j = 16 + a → ¬ j = 24 + a → ¬ j = 32 + a → ¬ j = 40 + a → fz j = g j) (j : Nat) : fz j = putU g a v j := by
  obtain ⟨h0, h1, h2, h3, h4, h5⟩ := h
  unfold putU
  by_cases q0 : j = 0 + a
  · rw [if_pos q0, q0, h0]
  · rw [if_neg q0]
    by_cases q1 : j = 8 + a
    · rw [if_pos q1, q1, h1]
    · rw [if_neg q1]
      by_cases q2 : j = 16 + a
      · rw [if_pos q2, q2, h2]
      · rw [if_neg q2]
        by_cases q3 : j = 24 + a
        · rw [if_pos q3, q3, h3]
        · rw [if_neg q3]
          by_cases q4 : j = 32 + a
          · rw [if_pos q4, q4, h4]
          · rw [if_neg q4]
            by_cases q5 : j = 40 + a
            · rw [if_pos q5, q5, h5]
            · rw [if_neg q5]; exact ho j q0 q1 q2 q3 q4 q5
/-- the reference's own ask comes to that -/
theorem askedP.eq {n al be : Nat} {pr r : Int32} {f fz : Nat → Int32} {x : Int32} {a : Nat} (h : askedP n al be pr f x a (uOf f a) r fz) (j : Nat) : fz j = askM n al be pr f a x j := by
  obtain ⟨g, z, o, hL, hup, hr, _, ho, _⟩ := h
  have hL : askL f x a n = (g, z, o) := hL
  unfold askM askV
  rw [hL]
  exact putU_uniq hr ho j
theorem askL_up {f : Nat → Int32} {S : Int32} {a n : Nat} (ha : a < 8) (hna : ¬ f (0 + a) < 0) (hn : n ≤ 8) (j : Nat) (hj : 8 ≤ j) : (askL f S a n).1 j = f j := by
  rw [askL_row ha hna n hn j, if_neg (by omega)]
theorem isU.same {x : Int32} {u v : Nat → Nat} (h : isU x u) (e : ∀ i, i < 6 → v i = u i) : isU x v := by
  unfold isU at *
  rw [e 0 (by decide), e 1 (by decide), e 2 (by decide), e 3 (by decide), e 4 (by decide), e 5 (by decide)]
  exact h
theorem relA.u {be : Nat} {nf kf lf f : Nat → Int32} {s : Nat → Nat → Nat} (h : relA be nf kf lf f s) : relA be nf kf lf f (uOf f) := fun j hj => by
  obtain ⟨h1, h2, h3, h4, h5⟩ := h j hj
  have e := uOf_eq h2 h3
  exact ⟨h1.same e, h2.same e, h3.same e, h4, h5⟩
/-- a row of the class and a row of the reference's form tell the same -/
def relR (be : Nat) (nf kf lf f : Nat → Int32) : Prop := relA be nf kf lf f (uOf f)
/-- the class's ask, of a row that tells the same, comes to one that tells the same -/
theorem ask_rel {be n k al : Nat} {pr : Int32} {nf kf lf f nz : Nat → Int32} {a : Nat} {S y1 y2 y3 : Int32} (hr : relR be nf kf lf f) (ha : a < n) (hn : n ≤ 8) (hal : al ≤ 8) (hbe : 1 ≤ be ∧ be ≤ 15) (h2 : k < 2 * al) (hm : mcaP f a)
    (hS : msmP n k a S) (hk : k < 8) (hlis : lisI n a lf kf nf 0 y1 y2 y3)
    (hcl : ∀ j, j < 32 → nz j = upd (givF n (y3 &&& S) (colF (nf a)) nf) a (setF pr be (nf a) (winF al (bcF (S &&& y2)) (bcF (S &&& y1)))) j) : relR be nz kf lf (askM n al be pr f a S) := by
  have ra := hr a (by omega)
  have cu := can_u ra.2.1 ra.2.2.1 hbe.2 hm
  have hna := ra.2.1.neg cu.1
  have smp := smp_S hn hk hS
  obtain ⟨s', h⟩ := (ask_bridge (r := nI (ansU (uOf f a) (askV n al be pr f a S))) (fz := askM n al be pr f a S) hr ha hn hal hbe h2 cu.1 cu.2.1 smp.1 smp.2 hlis hcl
    ⟨(askL f S a n).1, (askL f S a n).2.1, (askL f S a n).2.2, rfl, fun j hj => askL_up (by omega) hna hn j hj, putU_row _ _ _, rfl, putU_oth _ _ _⟩).2
  exact h.u
/-- a word is what it tells -/
theorem fld_ext {x y : Int32} (h0 : fld 0 2 x = fld 0 2 y) (h1 : fld 2 2 x = fld 2 2 y) (h2 : fld 4 4 x = fld 4 4 y) (h3 : fld 8 10 x = fld 8 10 y) (h4 : fld 18 10 x = fld 18 10 y) (h5 : fld 28 1 x = fld 28 1 y) (h6 : fld 29 3 x = fld 29 3 y) : x = y := by
  have bit : ∀ s w, fld s w x = fld s w y → ∀ i, s ≤ i → i < s + w → x.toBitVec.getLsbD i = y.toBitVec.getLsbD i := fun s w h i hi hj => by
    have q : (fld s w x).testBit (i - s) = (fld s w y).testBit (i - s) := by rw [h]
    rw [fld_bit, fld_bit, decide_eq_true (show i - s < w by omega), Bool.true_and, Bool.true_and, show s + (i - s) = i by omega] at q
    exact q
  refine Int32.toBitVec_inj.mp ?_
  apply BitVec.eq_of_getLsbD_eq
  intro i hi
  rcases (show i < 0 + 2 ∨ (2 ≤ i ∧ i < 2 + 2) ∨ (4 ≤ i ∧ i < 4 + 4) ∨ (8 ≤ i ∧ i < 8 + 10) ∨ (18 ≤ i ∧ i < 18 + 10) ∨ (28 ≤ i ∧ i < 28 + 1) ∨ (29 ≤ i ∧ i < 29 + 3) by omega) with q | q | q | q | q | q | q
  · exact bit 0 2 h0 i (Nat.zero_le _) q
  · exact bit 2 2 h1 i q.1 q.2
  · exact bit 4 4 h2 i q.1 q.2
  · exact bit 8 10 h3 i q.1 q.2
  · exact bit 18 10 h4 i q.1 q.2
  · exact bit 28 1 h5 i q.1 q.2
  · exact bit 29 3 h6 i q.1 q.2
def sameS (f g : Nat → Int32) : Prop := ∀ j, j < 48 → f j = g j
/-- rows are the same on one side where they are on the other -/
theorem rel_same {be : Nat} {nf nf' kf lf f f' : Nat → Int32} (h : relR be nf kf lf f) (h' : relR be nf' kf lf f') : (∀ j, j < 8 → nf j = nf' j) ↔ sameS f f' := by
  constructor
  · intro e j hj
    obtain ⟨c, a, ha, hc, rfl⟩ : ∃ c a, a < 8 ∧ c < 6 ∧ j = 8 * c + a := ⟨j / 8, j % 8, by omega, by omega, by omega⟩
    obtain ⟨x1, x2, _⟩ := h a ha
    obtain ⟨y1, y2, _⟩ := h' a ha
    rw [e a ha] at x1
    unfold isU at x1 y1
    unfold rowU at x2 y2
    rcases (show c = 0 ∨ c = 1 ∨ c = 2 ∨ c = 3 ∨ c = 4 ∨ c = 5 by omega) with rfl | rfl | rfl | rfl | rfl | rfl
    · show f (0 + a) = f' (0 + a)
      rw [x2.1, y2.1, ← x1.1, ← y1.1]
    · show f (8 + a) = f' (8 + a)
      rw [x2.2.1, y2.2.1, ← x1.2.1, ← y1.2.1]
    · show f (16 + a) = f' (16 + a)
      rw [x2.2.2.1, y2.2.2.1, ← x1.2.2.1, ← y1.2.2.1]
    · show f (24 + a) = f' (24 + a)
      rw [x2.2.2.2.1, y2.2.2.2.1, ← x1.2.2.2.1, ← y1.2.2.2.1]
    · show f (32 + a) = f' (32 + a)
      rw [x2.2.2.2.2.1, y2.2.2.2.2.1, ← x1.2.2.2.2.1, ← y1.2.2.2.2.1]
    · show f (40 + a) = f' (40 + a)
      rw [x2.2.2.2.2.2, y2.2.2.2.2.2, ← x1.2.2.2.2.2.1, ← y1.2.2.2.2.2.1]
  · intro e j hj
    obtain ⟨x1, _⟩ := h j hj
    obtain ⟨y1, _⟩ := h' j hj
    have u : ∀ i, i < 6 → uOf f j i = uOf f' j i := fun i hi => by
      unfold uOf
      rw [e (0 + j) (by omega), e (8 + j) (by omega), e (8 * i + j) (by omega)]
    unfold isU at x1 y1
    refine fld_ext ?_ ?_ ?_ ?_ ?_ ?_ ?_
    · rw [x1.1, y1.1, u 0 (by decide)]
    · rw [x1.2.1, y1.2.1, u 1 (by decide)]
    · rw [x1.2.2.1, y1.2.2.1, u 2 (by decide)]
    · rw [x1.2.2.2.1, y1.2.2.2.1, u 3 (by decide)]
    · rw [x1.2.2.2.2.1, y1.2.2.2.2.1, u 4 (by decide)]
    · rw [x1.2.2.2.2.2.1, y1.2.2.2.2.2.1, u 5 (by decide)]
    · rw [x1.2.2.2.2.2.2, y1.2.2.2.2.2.2]
theorem sameS.symm {f g : Nat → Int32} (h : sameS f g) : sameS g f := fun j hj => (h j hj).symm
theorem sameS.trans {f g h : Nat → Int32} (a : sameS f g) (b : sameS g h) : sameS f h := fun j hj => (a j hj).trans (b j hj)
/-! the steps of the search: of what was found (how many, the rows, how deep each lies), and what it comes to (-1: it goes on) -/
abbrev srS := Nat × (Nat → Nat → Int32) × (Nat → Nat) × Int32
def updN {α : Type} (f : Nat → α) (i : Nat) (x : α) : Nat → α := fun j => if j = i then x else f j
theorem updN_at {α : Type} (f : Nat → α) (i : Nat) (x : α) : updN f i x i = x := if_pos rfl
theorem updN_ne {α : Type} (f : Nat → α) {i j : Nat} (x : α) (h : ¬ j = i) : updN f i x j = f j := if_neg h
def srNew (A : srS) (t : Nat → Int32) : Prop := ∀ i, i < A.1 → ¬ sameS (A.2.1 i) t
def srAdd (A : srS) (m : Nat) (t : Nat → Int32) : srS := (A.1 + 1, updN A.2.1 A.1 t, updN A.2.2.1 A.1 (A.2.2.1 m + 1), -1)
def srEnd (A : srS) (x : Int32) : srS := (A.1, A.2.1, A.2.2.1, x)
def srStep (n : Nat) (A : srS) (m : Nat) (t : Nat → Int32) (B : srS) : Prop :=
  (¬ A.2.2.2 = -1 ∧ B = A) ∨ (A.2.2.2 = -1 ∧ ((splP n t ∧ B = srEnd A (nI (A.2.2.1 m + 1))) ∨
    (¬ splP n t ∧ ((¬ srNew A t ∧ B = A) ∨ (srNew A t ∧ ((A.1 = 2000 ∧ B = srEnd A (-3)) ∨ (A.1 < 2000 ∧ B = srAdd A m t)))))))
theorem srStep.uniq {n m : Nat} {A B B' : srS} {t : Nat → Int32} (h : srStep n A m t B) (h' : srStep n A m t B') : B = B' := by
  rcases h with ⟨a, rfl⟩ | ⟨a, ⟨b, rfl⟩ | ⟨b, ⟨c, rfl⟩ | ⟨c, ⟨d, rfl⟩ | ⟨d, rfl⟩⟩⟩⟩ <;> rcases h' with ⟨a', rfl⟩ | ⟨a', ⟨b', rfl⟩ | ⟨b', ⟨c', rfl⟩ | ⟨c', ⟨d', rfl⟩ | ⟨d', rfl⟩⟩⟩⟩ <;> first | rfl | exact absurd a' a | exact absurd a a' | exact absurd b' b | exact absurd b b' | exact absurd c' c | exact absurd c c' | (exfalso; omega)
/-- of a node: its samples, one after the other -/
def srO (n al be : Nat) (pr : Int32) (m a : Nat) : List Nat → srS → srS → Prop
  | [], A, B => B = A
  | S :: l, A, B => ∃ C, srStep n A m (askM n al be pr (A.2.1 m) a (nI S)) C ∧ srO n al be pr m a l C B
theorem srO.uniq {n al be m a : Nat} {pr : Int32} : ∀ {l : List Nat} {A B B' : srS}, srO n al be pr m a l A B → srO n al be pr m a l A B' → B = B'
  | [], A, B, B', h, h' => by
    have e : B = A := h
    have e' : B' = A := h'
    rw [e, e']
  | S :: l, A, B, B', ⟨C, h1, h2⟩, ⟨C', h1', h2'⟩ => by
    rw [h1.uniq h1'] at h2
    exact srO.uniq h2 h2'
theorem srO.snoc {n al be m a S : Nat} {pr : Int32} : ∀ {l : List Nat} {A B C : srS}, srO n al be pr m a l A B → srStep n B m (askM n al be pr (B.2.1 m) a (nI S)) C → srO n al be pr m a (l ++ [S]) A C
  | [], A, B, C, h, k => by
    have e : B = A := h
    subst e
    exact ⟨C, k, rfl⟩
  | T :: l, A, B, C, ⟨D, h1, h2⟩, k => ⟨D, h1, srO.snoc h2 k⟩
theorem srO.dead {n al be m a : Nat} {pr : Int32} : ∀ {l : List Nat} {A : srS}, ¬ A.2.2.2 = -1 → srO n al be pr m a l A A
  | [], A, _ => rfl
  | S :: l, A, h => ⟨A, Or.inl ⟨h, rfl⟩, srO.dead h⟩
theorem srO.app {n al be m a : Nat} {pr : Int32} {l2 : List Nat} : ∀ {l : List Nat} {A B C : srS}, srO n al be pr m a l A B → srO n al be pr m a l2 B C → srO n al be pr m a (l ++ l2) A C
  | [], A, B, C, h, k => by
    have e : B = A := h
    subst e
    exact k
  | T :: l, A, B, C, ⟨D, h1, h2⟩, k => ⟨D, h1, srO.app h2 k⟩
/-- of a state: the first nodes -/
def srN (n k al be : Nat) (pr : Int32) (m : Nat) : Nat → srS → srS → Prop
  | 0, A, B => B = A
  | a + 1, A, B => ∃ C, srN n k al be pr m a A C ∧ ((mcaP (C.2.1 m) a ∧ srO n al be pr m a (smL n k a (2 ^ n)) C B) ∨ (¬ mcaP (C.2.1 m) a ∧ B = C))
theorem srN.uniq {n k al be m : Nat} {pr : Int32} : ∀ {a : Nat} {A B B' : srS}, srN n k al be pr m a A B → srN n k al be pr m a A B' → B = B'
  | 0, A, B, B', h, h' => by
    have e : B = A := h
    have e' : B' = A := h'
    rw [e, e']
  | a + 1, A, B, B', ⟨C, h1, h2⟩, ⟨C', h1', h2'⟩ => by
    rw [srN.uniq h1 h1'] at h2
    rcases h2 with ⟨p, h2⟩ | ⟨p, h2⟩ <;> rcases h2' with ⟨p', h2'⟩ | ⟨p', h2'⟩
    · exact h2.uniq h2'
    · exact absurd p p'
    · exact absurd p' p
    · rw [h2, h2']
theorem srN.dead {n k al be m : Nat} {pr : Int32} {A B : srS} (h : ¬ B.2.2.2 = -1) : ∀ {a b : Nat}, a ≤ b → srN n k al be pr m a A B → srN n k al be pr m b A B
  | a, 0, hab, k => by
    obtain rfl : a = 0 := by omega
    exact k
  | a, b + 1, hab, w => by
    by_cases q : a = b + 1
    · subst q; exact w
    · refine ⟨B, srN.dead h (show a ≤ b by omega) w, ?_⟩
      by_cases c : mcaP (B.2.1 m) b
      · exact Or.inl ⟨c, srO.dead h⟩
      · exact Or.inr ⟨c, rfl⟩
/-- of the first states -/
def srA (n k al be : Nat) (pr : Int32) : Nat → srS → srS → Prop
  | 0, A, B => B = A
  | m + 1, A, B => ∃ C, srA n k al be pr m A C ∧ ((C.2.2.2 = -1 ∧ m < C.1 ∧ srN n k al be pr m n C B) ∨ (¬ (C.2.2.2 = -1 ∧ m < C.1) ∧ B = C))
theorem srA.uniq {n k al be : Nat} {pr : Int32} : ∀ {m : Nat} {A B B' : srS}, srA n k al be pr m A B → srA n k al be pr m A B' → B = B'
  | 0, A, B, B', h, h' => by
    have e : B = A := h
    have e' : B' = A := h'
    rw [e, e']
  | m + 1, A, B, B', ⟨C, h1, h2⟩, ⟨C', h1', h2'⟩ => by
    rw [srA.uniq h1 h1'] at h2
    rcases h2 with ⟨p, q, h2⟩ | ⟨p, h2⟩ <;> rcases h2' with ⟨p', q', h2'⟩ | ⟨p', h2'⟩
    · exact h2.uniq h2'
    · exact absurd ⟨p, q⟩ p'
    · exact absurd ⟨p', q'⟩ p
    · rw [h2, h2']
theorem srA.rest {n k al be : Nat} {pr : Int32} {A B : srS} {m : Nat} (w : srA n k al be pr m A B) : ∀ {b : Nat}, m ≤ b → (¬ B.2.2.2 = -1 ∨ B.1 ≤ m) → srA n k al be pr b A B
  | 0, hab, _ => by
    obtain rfl : m = 0 := by omega
    exact w
  | b + 1, hab, h => by
    by_cases q : m = b + 1
    · subst q; exact w
    · exact ⟨B, srA.rest w (show m ≤ b by omega) h, Or.inr ⟨fun z => h.elim (fun c => c z.1) (fun c => by have := z.2; omega), rfl⟩⟩
/-- how many queries there are to a split at least: the answer -/
def srP (n k al be : Nat) (pr : Int32) (f : Nat → Int32) (r : Int32) : Prop := (splP n f ∧ r = nI 0) ∨ (¬ splP n f ∧ ∃ B, srA n k al be pr 2000 (1, fun _ => f, fun _ => 0, -1) B ∧ r = B.2.2.2)
theorem srP.uniq {n k al be : Nat} {pr : Int32} {f : Nat → Int32} {r r' : Int32} (h : srP n k al be pr f r) (h' : srP n k al be pr f r') : r = r' := by
  rcases h with ⟨a, b⟩ | ⟨a, B, h, b⟩ <;> rcases h' with ⟨a', b'⟩ | ⟨a', B', h', b'⟩
  · rw [b, b']
  · exact absurd a a'
  · exact absurd a' a
  · rw [b, b', h.uniq h']
