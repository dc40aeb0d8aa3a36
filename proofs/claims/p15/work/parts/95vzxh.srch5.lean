/-! the search, as the model goes through it -/
/-- the m-th row of its states, and above it what no query changes -/
def rowG (sf f : Nat → Int32) (m : Nat) : Nat → Int32 := fun j => if j < 48 then sf (48 * m + j) else f j
theorem rowG.brings {sf f fz : Nat → Int32} {m : Nat} (h1 : ∀ j, j < 48 → fz j = sf (48 * m + j)) (h2 : ∀ j, 48 ≤ j → fz j = f j) : fz = rowG sf f m := funext (fun j => by
  unfold rowG
  by_cases q : j < 48
  · rw [if_pos q]; exact h1 j q
  · rw [if_neg q]; exact h2 j (by omega))
theorem rowG.put {sf f t : Nat → Int32} {m : Nat} (h1 : ∀ j, j < 48 → sf (48 * m + j) = t j) (h2 : ∀ j, 48 ≤ j → t j = f j) : rowG sf f m = t := (rowG.brings (fun j hj => (h1 j hj).symm) h2).symm
theorem askM_far {n be al a : Nat} {pr : Int32} {f : Nat → Int32} {S : Int32} (ha : a < 8) (hn : n ≤ 8) (hna : ¬ f (0 + a) < 0) (j : Nat) (hj : 48 ≤ j) : askM n al be pr f a S j = f j := by
  unfold askM
  rw [putU_oth _ _ _ j (by omega) (by omega) (by omega) (by omega) (by omega) (by omega)]
  exact askL_up ha hna hn j (by omega)
def msI (n be : Nat) (f0 sf tf df : Nat → Int32) (sz : Nat) (A : srS) : Prop := tbM sf tf sz ∧ A.1 = sz ∧ (∀ m, m < sz → A.2.1 m = rowG sf f0 m ∧ okS be (A.2.1 m) ∧ ¬ splP n (A.2.1 m)) ∧ (∀ m, m < sz → df m = nI (A.2.2.1 m) ∧ A.2.2.1 m ≤ m) ∧ A.2.2.2 = -1
section MSI
variable {n k al be sz szz m v g : Nat} {pr r : Int32} {f0 sf tf df sfz tfz smf smz t : Nat → Int32} {ti tiz : Nat → Int64} {A : srS}
theorem msI.row (h : msI n be f0 sf tf df sz A) (hm : m < sz) : A.2.1 m = rowG sf f0 m := (h.2.2.1 m hm).1
theorem msI.same (h : msI n be f0 sf tf df sz A) (hm : m < sz) : rwM sf m t ↔ sameS (A.2.1 m) t := by
  rw [h.row hm]
  unfold rwM sameS rowG
  constructor
  · intro q j hj
    rw [if_pos hj]
    exact q j hj
  · intro q j hj
    have z := q j hj
    rw [if_pos hj] at z
    exact z
/-- it splits: the end -/
theorem msI.split (h : msI n be f0 sf tf df sz A) (hs : splP n t) : srStep n A v t (srEnd A (nI (A.2.2.1 v + 1))) := Or.inr ⟨h.2.2.2.2, Or.inl ⟨hs, rfl⟩⟩
/-- what the number of the state that came tells -/
theorem msI.nof (h : msI n be f0 sf tf df sz A) (hs : ¬ splP n t) (hok : okS be t) (hfar : ∀ j, 48 ≤ j → t j = f0 j) (hv : v < sz) (ht : tbM sfz tfz szz) (hn : nofF sz szz sf sfz tf tfz smf smz t ti tiz g r) :
    (∃ m, m < sz ∧ r = nI m ∧ szz = sz ∧ srStep n A v t A ∧ msI n be f0 sfz tfz df szz A) ∨ (r = -1 ∧ srStep n A v t (srEnd A (-3))) ∨
    (r = nI sz ∧ sz < 2000 ∧ szz = sz + 1 ∧ srStep n A v t (srAdd A v t) ∧ msI n be f0 sfz tfz (upd df sz (nI (A.2.2.1 v + 1))) szz (srAdd A v t)) := by
  have new : (∀ m, m < sz → ¬ rwM sf m t) → srNew A t := fun q i hi z => q i (by rw [← h.2.1]; exact hi) ((h.same (by rw [← h.2.1]; exact hi)).mpr z)
  rcases hn with ⟨m, hm, e, e1, e2, e3, e4, _⟩ | ⟨no, ⟨z, e1, e2, _⟩ | ⟨z, e1, e2, e3, e4, _⟩⟩
  · refine Or.inl ⟨m, hm, e1, e2, Or.inr ⟨h.2.2.2.2, Or.inr ⟨hs, Or.inl ⟨fun q => q m (by rw [h.2.1]; exact hm) ((h.same hm).mp e), rfl⟩⟩⟩, ?_⟩
    rw [e2, e3, e4]
    exact h
  · exact Or.inr (Or.inl ⟨e1, Or.inr ⟨h.2.2.2.2, Or.inr ⟨hs, Or.inr ⟨new no, Or.inl ⟨by rw [h.2.1]; exact z, rfl⟩⟩⟩⟩⟩)
  · refine Or.inr (Or.inr ⟨e1, z, e2, Or.inr ⟨h.2.2.2.2, Or.inr ⟨hs, Or.inr ⟨new no, Or.inr ⟨by rw [h.2.1]; exact z, rfl⟩⟩⟩⟩, ht, by rw [e2]; show A.1 + 1 = sz + 1; rw [h.2.1], fun m hm => ?_, fun m hm => ?_, rfl⟩)
    · show updN A.2.1 A.1 t m = rowG sfz f0 m ∧ okS be (updN A.2.1 A.1 t m) ∧ ¬ splP n (updN A.2.1 A.1 t m)
      rw [h.2.1]
      by_cases q : m = sz
      · subst q
        rw [updN_at]
        exact ⟨(rowG.put e4 hfar).symm, hok, hs⟩
      · rw [updN_ne _ _ q]
        have w := h.2.2.1 m (by omega)
        refine ⟨w.1.trans ?_, w.2⟩
        funext j
        unfold rowG
        by_cases c : j < 48
        · rw [if_pos c, if_pos c]; exact (e3 _ (by omega)).symm
        · rw [if_neg c, if_neg c]
    · show upd df sz (nI (A.2.2.1 v + 1)) m = nI (updN A.2.2.1 A.1 (A.2.2.1 v + 1) m) ∧ updN A.2.2.1 A.1 (A.2.2.1 v + 1) m ≤ m
      rw [h.2.1]
      unfold upd
      by_cases q : m = sz
      · subst q
        rw [if_pos rfl, updN_at]
        exact ⟨rfl, by have := (h.2.2.2.1 v hv).2; omega⟩
      · rw [if_neg q, updN_ne _ _ q]
        exact h.2.2.2.1 m (by omega)
theorem msI.start (hs : ¬ splP n t) (hok : okS be t) (hfar : ∀ j, 48 ≤ j → t j = f0 j) (ht : tbM sfz tfz 1) (hr : rwM sfz 0 t) (hd : df 0 = nI 0) : msI n be f0 sfz tfz df 1 (srB t) := by
  refine ⟨ht, rfl, fun m hm => ?_, fun m hm => ?_, rfl⟩
  · obtain rfl : m = 0 := by omega
    exact ⟨(rowG.put hr hfar).symm, hok, hs⟩
  · obtain rfl : m = 0 := by omega
    exact ⟨hd, Nat.le_refl _⟩
end MSI
/-- what was found stays -/
theorem srStep.keep {n m z : Nat} {A B : srS} {t : Nat → Int32} (h : srStep n A m t B) (hz : z < A.1) : B.2.1 z = A.2.1 z ∧ A.1 ≤ B.1 := by
  rcases h with ⟨_, rfl⟩ | ⟨_, ⟨_, rfl⟩ | ⟨_, ⟨_, rfl⟩ | ⟨_, ⟨_, rfl⟩ | ⟨_, rfl⟩⟩⟩⟩
  · exact ⟨rfl, Nat.le_refl _⟩
  · exact ⟨rfl, Nat.le_refl _⟩
  · exact ⟨rfl, Nat.le_refl _⟩
  · exact ⟨rfl, Nat.le_refl _⟩
  · exact ⟨updN_ne _ _ (by omega), Nat.le_succ _⟩
theorem srO.keep {n al be m a z : Nat} {pr : Int32} : ∀ {l : List Nat} {A B : srS}, srO n al be pr m a l A B → z < A.1 → B.2.1 z = A.2.1 z ∧ A.1 ≤ B.1
  | [], A, B, h, hz => by
    have e : B = A := h
    rw [e]
    exact ⟨rfl, Nat.le_refl _⟩
  | S :: l, A, B, ⟨C, h1, h2⟩, hz => by
    have k1 := h1.keep hz
    have k2 := srO.keep h2 (show z < C.1 by omega)
    exact ⟨k2.1.trans k1.1, by omega⟩
/-- in front of the set o2, of node o, of state z -/
def fbI (n k al be : Nat) (pr : Int32) (z o o2 : Nat) (A C B : srS) : Prop := srN n k al be pr z o A C ∧ srO n al be pr z o (smL n k o o2) C B ∧ (mcaP (C.2.1 z) o ∨ (smL n k o o2 = [] ∧ B = C)) ∧ z < C.1
theorem fbI.zero {n k al be z o : Nat} {pr : Int32} {A C : srS} (h : srN n k al be pr z o A C) (hz : z < C.1) : fbI n k al be pr z o 0 A C C := ⟨h, (by rw [show smL n k o 0 = [] from rfl]; exact (rfl : C = C)), Or.inr ⟨rfl, rfl⟩, hz⟩
theorem fbI.row {n k al be z o o2 : Nat} {pr : Int32} {A C B : srS} (h : fbI n k al be pr z o o2 A C B) : B.2.1 z = C.2.1 z := (srO.keep h.2.1 h.2.2.2).1
theorem fbI.no {n k al be z o o2 : Nat} {pr : Int32} {A C B : srS} (h : fbI n k al be pr z o o2 A C B) (c : ¬ smB n k o o2 = true) : fbI n k al be pr z o (o2 + 1) A C B := by
  unfold fbI
  rw [smL_no c]
  exact h
theorem fbI.yes {n k al be z o o2 : Nat} {pr : Int32} {A C B D : srS} (h : fbI n k al be pr z o o2 A C B) (c : smB n k o o2 = true) (hm : mcaP (C.2.1 z) o) (st : srStep n B z (askM n al be pr (B.2.1 z) o (nI o2)) D) : fbI n k al be pr z o (o2 + 1) A C D := by
  unfold fbI
  rw [smL_yes c]
  exact ⟨h.1, h.2.1.snoc st, Or.inl hm, h.2.2.2⟩
/-- its query can't be: the next node -/
theorem fbI.brk {n k al be z o o2 : Nat} {pr : Int32} {A C B : srS} (h : fbI n k al be pr z o o2 A C B) (hm : ¬ mcaP (C.2.1 z) o) : srN n k al be pr z (o + 1) A B := by
  rcases h.2.2.1 with q | ⟨_, q⟩
  · exact absurd q hm
  · rw [q]
    exact ⟨C, h.1, Or.inr ⟨hm, rfl⟩⟩
theorem fbI.done {n k al be z o : Nat} {pr : Int32} {A C B : srS} (h : fbI n k al be pr z o (2 ^ n) A C B) : srN n k al be pr z (o + 1) A B := by
  by_cases hm : mcaP (C.2.1 z) o
  · exact ⟨C, h.1, Or.inl ⟨hm, h.2.1⟩⟩
  · exact h.brk hm
/-- it ends at this sample -/
theorem fbI.stop {n k al be z o o2 : Nat} {pr : Int32} {A C B D : srS} (h : fbI n k al be pr z o o2 A C B) (ho : o < n) (ho2 : o2 < 2 ^ n) (c : smB n k o o2 = true) (hm : mcaP (C.2.1 z) o) (st : srStep n B z (askM n al be pr (B.2.1 z) o (nI o2)) D) (hd : ¬ D.2.2.2 = -1) : srN n k al be pr z n A D := by
  have w := h.2.1.snoc st
  rw [← smL_yes c] at w
  have e : ∃ l, smL n k o (2 ^ n) = smL n k o (o2 + 1) ++ l := by
    have key : ∀ d, ∃ l, smL n k o (o2 + 1 + d) = smL n k o (o2 + 1) ++ l := by
      intro d
      induction d with
      | zero => exact ⟨[], (List.append_nil _).symm⟩
      | succ d ih =>
        obtain ⟨l, hl⟩ := ih
        by_cases q : smB n k o (o2 + 1 + d) = true
        · exact ⟨l ++ [o2 + 1 + d], by rw [show o2 + 1 + (d + 1) = (o2 + 1 + d) + 1 by omega, smL_yes q, hl, List.append_assoc]⟩
        · exact ⟨l, by rw [show o2 + 1 + (d + 1) = (o2 + 1 + d) + 1 by omega, smL_no q, hl]⟩
    obtain ⟨l, hl⟩ := key (2 ^ n - (o2 + 1))
    exact ⟨l, by rw [← hl, show o2 + 1 + (2 ^ n - (o2 + 1)) = 2 ^ n by omega]⟩
  obtain ⟨l, hl⟩ := e
  have w2 : srO n al be pr z o (smL n k o (2 ^ n)) C D := by
    rw [hl]
    exact w.app (srO.dead hd)
  exact srN.dead hd (show o + 1 ≤ n by omega) ⟨C, h.1, Or.inl ⟨hm, w2⟩⟩
theorem pow_nf {n : Nat} (h : n ≤ 8) : ∃ q, (q = 2 ^ n ∧ q ≤ 256) ∧ ((nI 1) <<< ((nI n) &&& 31)) = nI q := by
  have e : ∀ n, n ≤ 8 → 2 ^ n ≤ 256 ∧ ((nI 1) <<< ((nI n) &&& 31)) = nI (2 ^ n) := by decide
  exact ⟨2 ^ n, ⟨rfl, (e n h).1⟩, (e n h).2⟩
theorem nof_le {sz szz : Nat} {sf sfz tf tfz smf smz f : Nat → Int32} {ti tiz : Nat → Int64} {g : Nat} {r : Int32} (h : nofF sz szz sf sfz tf tfz smf smz f ti tiz g r) : sz ≤ szz := by
  rcases h with ⟨m, _, _, _, e, _⟩ | ⟨_, ⟨_, _, e, _⟩ | ⟨_, _, e, _⟩⟩ <;> omega
theorem colP_ok {be : Nat} {f : Nat → Int32} (h : okS be f) : colP f := fun a ha => by
  have z := (h a ha).1.1
  have k := (h a ha).2.1
  rw [Nat.zero_add] at z
  show colV (f a)
  rw [z]
  rcases (show uOf f a 0 = 0 ∨ uOf f a 0 = 1 ∨ uOf f a 0 = 2 by omega) with q | q | q <;> rw [q]
  · exact Or.inl (by decide)
  · exact Or.inr (Or.inl (by decide))
  · exact Or.inr (Or.inr (by decide))
theorem askM_ok {n be al a : Nat} {pr r : Int32} {f fz : Nat → Int32} {S : Int32} (hn : n ≤ 8) (hbe : 1 ≤ be ∧ be ≤ 15) (ok : okS be f) (hm : mcaP f a) (ha : a < 8) (h : askedP n al be pr f S a (uOf f a) r fz) : okS be (askM n al be pr f a S) := by
  have hu := ok a ha
  have cu := can_u hu.1 hu.2 hbe.2 hm
  rw [← (funext (askedP.eq h) : fz = askM n al be pr f a S)]
  exact okS.of (rows_step ha hn hm.2.2 hbe hu.1 hu.2 cu.1 cu.2.1 (fun j hj => ⟨_, ok j hj⟩) h)
theorem rowG.far {sf f f' : Nat → Int32} (e : ∀ j, 48 ≤ j → f' j = f j) (m : Nat) : rowG sf f' m = rowG sf f m := funext (fun j => by
  unfold rowG
  by_cases q : j < 48
  · rw [if_pos q, if_pos q]
  · rw [if_neg q, if_neg q]; exact e j (by omega))
theorem msI.far {n be sz : Nat} {f0 f1 sf tf df : Nat → Int32} {A : srS} (h : msI n be f0 sf tf df sz A) (e : ∀ j, 48 ≤ j → f1 j = f0 j) : msI n be f1 sf tf df sz A := ⟨h.1, h.2.1, fun m hm => by rw [rowG.far e m]; exact h.2.2.1 m hm, h.2.2.2⟩
/-- the model's search, in front of state o -/
def fiI (n k al be : Nat) (pr : Int32) (f sf tf df : Nat → Int32) (sz o : Nat) (is : Int32) : Prop := ∃ B, srA n k al be pr o (srB f) B ∧ ((is = -1 ∧ msI n be f sf tf df sz B) ∨ (¬ B.2.2.2 = -1 ∧ is = B.2.2.2))
theorem fiI.get {n k al be sz o : Nat} {pr is : Int32} {f sf tf df : Nat → Int32} (h : fiI n k al be pr f sf tf df sz o is) (c : is = -1) : ∃ B, srA n k al be pr o (srB f) B ∧ msI n be f sf tf df sz B := by
  obtain ⟨B, hB, ⟨_, q⟩ | ⟨q1, q2⟩⟩ := h
  · exact ⟨B, hB, q⟩
  · exact absurd (q2.symm.trans c) q1
theorem fiI.next {n k al be sz szz o : Nat} {pr r : Int32} {f f1 sf tf df sf2 tf2 df2 : Nat → Int32} {B : srS} (hB : srA n k al be pr o (srB f) B) (hM : msI n be f sf tf df sz B) (ho : o < sz) (e : ∀ j, 48 ≤ j → f1 j = f j) (h : ∃ C, srN n k al be pr o n B C ∧ ((r = -1 ∧ msI n be f1 sf2 tf2 df2 szz C) ∨ (¬ C.2.2.2 = -1 ∧ r = C.2.2.2))) : fiI n k al be pr f sf2 tf2 df2 szz (o + 1) r := by
  obtain ⟨C, hC, hr⟩ := h
  refine ⟨C, ⟨B, hB, Or.inl ⟨hM.2.2.2.2, by rw [hM.2.1]; exact ho, hC⟩⟩, ?_⟩
  rcases hr with ⟨q1, q2⟩ | q
  · exact Or.inl ⟨q1, q2.far (fun j hj => (e j hj).symm)⟩
  · exact Or.inr q
theorem fiI.end {n k al be sz o : Nat} {pr is : Int32} {f sf tf df : Nat → Int32} (h : fiI n k al be pr f sf tf df sz o is) (hs : ¬ splP n f) (ho : o ≤ 2000) (hd : sz ≤ o ∨ ¬ is = -1) : srP n k al be pr f is := by
  obtain ⟨B, hB, hh⟩ := h
  refine Or.inr ⟨hs, B, ?_, ?_⟩
  · refine hB.rest ho ?_
    rcases hh with ⟨q1, hM⟩ | ⟨q1, _⟩
    · rcases hd with d | d
      · exact Or.inr (by rw [hM.2.1]; exact d)
      · exact absurd q1 d
    · exact Or.inl q1
  · rcases hh with ⟨q1, hM⟩ | ⟨_, q2⟩
    · rw [q1, hM.2.2.2.2]
    · exact q2
theorem fiI.start {n k al be szz : Nat} {pr : Int32} {f sf sf2 tf2 df smf smz : Nat → Int32} {tf : Nat → Int32} {ti tiz : Nat → Int64} {r : Int32} {g : Nat} (hs : ¬ splP n f) (hok : okS be f) (hn : nofF 0 szz sf sf2 tf tf2 smf smz f ti tiz g r) (ht : tbM sf2 tf2 szz) (hd : df 0 = nI 0) : r = nI 0 ∧ szz = 1 ∧ fiI n k al be pr f sf2 tf2 df szz 0 (-1) := by
  rcases hn with ⟨m, hm, _⟩ | ⟨_, ⟨q, _⟩ | ⟨_, e1, e2, _, e4, _⟩⟩
  · exact absurd hm (Nat.not_lt_zero _)
  · exact absurd q (by decide)
  · obtain rfl : szz = 1 := e2
    exact ⟨e1, rfl, srB f, rfl, Or.inl ⟨rfl, msI.start hs hok (fun _ _ => rfl) ht e4 hd⟩⟩
