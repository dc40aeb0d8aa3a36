/-! what lies above the links tells nothing for a search -/
def lowQ (f g : Nat → Int32) : Prop := ∀ j, j < 64 → f j = g j
theorem lowQ.refl (f : Nat → Int32) : lowQ f f := fun _ _ => rfl
theorem lowQ.symm {f g : Nat → Int32} (h : lowQ f g) : lowQ g f := fun j hj => (h j hj).symm
theorem lowQ.trans {f g k : Nat → Int32} (h : lowQ f g) (h2 : lowQ g k) : lowQ f k := fun j hj => (h j hj).trans (h2 j hj)
section LOWQ
variable {f g t t' : Nat → Int32} {S : Int32} {a b n k al be m : Nat} {pr : Int32}
theorem lowQ.say (h : lowQ f g) (ha : a < 8) (hb : b < 8) : sayR f a b = sayR g a b := by
  unfold sayR
  rw [h (56 + a) (by omega), h (48 + b) (by omega), h (0 + b) (by omega), h (0 + a) (by omega)]
theorem lowQ.sG (h : lowQ f g) (ha : a < 8) (hb : b < 8) : lowQ (sayG f a b) (sayG g a b) := fun j hj => by
  have e1 := h (56 + a) (by omega)
  have e2 := h (48 + b) (by omega)
  have e3 := h (0 + b) (by omega)
  have e4 := h (0 + a) (by omega)
  show (if hasB (f (56 + a)) b ∧ f (48 + b) = 0 ∧ f (0 + b) < 0 then upd f (0 + b) (f (0 + a)) else f) j = (if hasB (g (56 + a)) b ∧ g (48 + b) = 0 ∧ g (0 + b) < 0 then upd g (0 + b) (g (0 + a)) else g) j
  rw [e1, e2, e3, e4]
  by_cases q : hasB (g (56 + a)) b ∧ g (48 + b) = 0 ∧ g (0 + b) < 0
  · rw [if_pos q, if_pos q]
    unfold upd
    by_cases c : j = 0 + b
    · rw [if_pos c, if_pos c]
    · rw [if_neg c, if_neg c]; exact h j hj
  · rw [if_neg q, if_neg q]
    exact h j hj
theorem lowQ.ask (h : lowQ f g) (ha : a < 8) : ∀ n, n ≤ 8 → lowQ (askL f S a n).1 (askL g S a n).1 ∧ (askL f S a n).2 = (askL g S a n).2
  | 0, _ => ⟨h, rfl⟩
  | b + 1, hb => by
    obtain ⟨h1, h2⟩ := lowQ.ask h ha b (by omega)
    have ef : askL f S a (b + 1) = if hasB S b then (sayG (askL f S a b).1 a b, (askL f S a b).2.1 + (if sayR (askL f S a b).1 a b = nI 0 then 1 else 0), (askL f S a b).2.2 + (if sayR (askL f S a b).1 a b = nI 1 then 1 else 0)) else askL f S a b := rfl
    have eg : askL g S a (b + 1) = if hasB S b then (sayG (askL g S a b).1 a b, (askL g S a b).2.1 + (if sayR (askL g S a b).1 a b = nI 0 then 1 else 0), (askL g S a b).2.2 + (if sayR (askL g S a b).1 a b = nI 1 then 1 else 0)) else askL g S a b := rfl
    rw [ef, eg]
    by_cases q : hasB S b
    · rw [if_pos q, if_pos q]
      refine ⟨h1.sG ha (by omega), ?_⟩
      show ((askL f S a b).2.1 + _, (askL f S a b).2.2 + _) = ((askL g S a b).2.1 + _, (askL g S a b).2.2 + _)
      rw [h2, h1.say ha (show b < 8 by omega)]
    · rw [if_neg q, if_neg q]
      exact ⟨h1, h2⟩
theorem lowQ.uO (h : lowQ f g) (ha : a < 8) : uOf f a = uOf g a := funext (fun i => by
  unfold uOf
  by_cases q : i < 6
  · rw [h (0 + a) (by omega), h (8 + a) (by omega), h (8 * i + a) (by omega)]
  · rw [if_neg (by omega), if_neg (by omega), if_neg q, if_neg (by omega), if_neg (by omega), if_neg q])
theorem lowQ.aM (h : lowQ f g) (ha : a < 8) (hn : n ≤ 8) : lowQ (askM n al be pr f a S) (askM n al be pr g a S) := fun j hj => by
  obtain ⟨h1, h2⟩ := h.ask (S := S) ha n hn
  have e : askV n al be pr f a S = askV n al be pr g a S := by
    unfold askV
    rw [h2, h.uO ha]
  show putU (askL f S a n).1 a (askV n al be pr f a S) j = putU (askL g S a n).1 a (askV n al be pr g a S) j
  rw [e]
  unfold putU
  rw [h1 j hj]
theorem lowQ.spl (h : lowQ f g) (hn : n ≤ 8) : splP n f ↔ splP n g := ⟨spl_same hn (fun j hj => h j (by omega)) (fun j hj => h _ (by omega)), spl_same hn (fun j hj => (h j (by omega)).symm) (fun j hj => (h _ (by omega)).symm)⟩
theorem lowQ.mca (h : lowQ f g) (ha : a < 8) : mcaP f a ↔ mcaP g a := by
  unfold mcaP
  rw [h (48 + a) (by omega), h (40 + a) (by omega), h (0 + a) (by omega)]
def lowS (A A' : srS) : Prop := A'.1 = A.1 ∧ (∀ i, lowQ (A.2.1 i) (A'.2.1 i)) ∧ A'.2.2.1 = A.2.2.1 ∧ A'.2.2.2 = A.2.2.2
variable {A A' B B' : srS}
theorem lowS.new (hA : lowS A A') (ht : lowQ t t') : srNew A t ↔ srNew A' t' := by
  unfold srNew sameS
  rw [hA.1]
  constructor
  · intro h i hi q
    exact h i hi (fun j hj => (hA.2.1 i j (by omega)).trans ((q j hj).trans (ht j (by omega)).symm))
  · intro h i hi q
    exact h i hi (fun j hj => (hA.2.1 i j (by omega)).symm.trans ((q j hj).trans (ht j (by omega))))
theorem lowS.add (hA : lowS A A') (ht : lowQ t t') : lowS (srAdd A m t) (srAdd A' m t') := by
  obtain ⟨e1, e2, e3, e4⟩ := hA
  refine ⟨by show A'.1 + 1 = A.1 + 1; rw [e1], fun i => ?_, ?_, rfl⟩
  · show lowQ (updN A.2.1 A.1 t i) (updN A'.2.1 A'.1 t' i)
    rw [e1]
    by_cases q : i = A.1
    · rw [q, updN_at, updN_at]; exact ht
    · rw [updN_ne _ _ q, updN_ne _ _ q]; exact e2 i
  · show updN A'.2.2.1 A'.1 (A'.2.2.1 m + 1) = updN A.2.2.1 A.1 (A.2.2.1 m + 1)
    rw [e1, e3]
theorem lowS.ends (hA : lowS A A') : lowS (srEnd A (nI (A.2.2.1 m + 1))) (srEnd A' (nI (A'.2.2.1 m + 1))) := ⟨hA.1, hA.2.1, hA.2.2.1, by show nI (A'.2.2.1 m + 1) = nI (A.2.2.1 m + 1); rw [hA.2.2.1]⟩
theorem srStep.low (hn : n ≤ 8) (hA : lowS A A') (ht : lowQ t t') (h : srStep n A m t B) (h' : srStep n A' m t' B') : lowS B B' := by
  have ns := hA.new ht
  have sp := ht.spl hn
  have c : A.2.2.2 = -1 ↔ A'.2.2.2 = -1 := by rw [hA.2.2.2]
  have e1 := hA.1
  rcases h with ⟨a, rfl⟩ | ⟨a, ⟨b, rfl⟩ | ⟨b, ⟨d, rfl⟩ | ⟨d, ⟨z, rfl⟩ | ⟨z, rfl⟩⟩⟩⟩ <;> rcases h' with ⟨a', rfl⟩ | ⟨a', ⟨b', rfl⟩ | ⟨b', ⟨d', rfl⟩ | ⟨d', ⟨z', rfl⟩ | ⟨z', rfl⟩⟩⟩⟩ <;> first | exact absurd (c.mpr a') a | exact absurd (c.mp a) a' | exact absurd (sp.mp b) b' | exact absurd (sp.mpr b') b | exact absurd (ns.mpr d') d | exact absurd (ns.mp d) d' | (exfalso; omega) | exact hA | exact hA.ends | exact ⟨hA.1, hA.2.1, hA.2.2.1, rfl⟩ | exact hA.add ht
theorem srO.low (hn : n ≤ 8) (ha : a < 8) : ∀ {l : List Nat} {A A' B B' : srS}, lowS A A' → srO n al be pr m a l A B → srO n al be pr m a l A' B' → lowS B B'
  | [], A, A', B, B', hA, h, h' => by
    have e : B = A := h
    have e' : B' = A' := h'
    rw [e, e']
    exact hA
  | S :: l, A, A', B, B', hA, ⟨C, h1, h2⟩, ⟨C', h1', h2'⟩ => srO.low hn ha (h1.low hn hA ((hA.2.1 m).aM ha hn) h1') h2 h2'
theorem srN.low (hn : n ≤ 8) : ∀ {a : Nat} {A A' B B' : srS}, a ≤ n → lowS A A' → srN n k al be pr m a A B → srN n k al be pr m a A' B' → lowS B B'
  | 0, A, A', B, B', _, hA, h, h' => by
    have e : B = A := h
    have e' : B' = A' := h'
    rw [e, e']
    exact hA
  | a + 1, A, A', B, B', hl, hA, ⟨C, h1, h2⟩, ⟨C', h1', h2'⟩ => by
    have w := srN.low hn (show a ≤ n by omega) hA h1 h1'
    have mc := (w.2.1 m).mca (show a < 8 by omega)
    rcases h2 with ⟨p, h2⟩ | ⟨p, h2⟩ <;> rcases h2' with ⟨p', h2'⟩ | ⟨p', h2'⟩
    · exact srO.low hn (by omega) w h2 h2'
    · exact absurd (mc.mp p) p'
    · exact absurd (mc.mpr p') p
    · rw [h2, h2']; exact w
theorem srA.low (hn : n ≤ 8) : ∀ {m : Nat} {A A' B B' : srS}, lowS A A' → srA n k al be pr m A B → srA n k al be pr m A' B' → lowS B B'
  | 0, A, A', B, B', hA, h, h' => by
    have e : B = A := h
    have e' : B' = A' := h'
    rw [e, e']
    exact hA
  | m + 1, A, A', B, B', hA, ⟨C, h1, h2⟩, ⟨C', h1', h2'⟩ => by
    have w := srA.low hn hA h1 h1'
    have c : (C.2.2.2 = -1 ∧ m < C.1) ↔ (C'.2.2.2 = -1 ∧ m < C'.1) := by rw [w.2.2.2, w.1]
    rcases h2 with ⟨p, q, h2⟩ | ⟨p, h2⟩ <;> rcases h2' with ⟨p', q', h2'⟩ | ⟨p', h2'⟩
    · exact srN.low hn (Nat.le_refl n) w h2 h2'
    · exact absurd (c.mp ⟨p, q⟩) p'
    · exact absurd (c.mpr ⟨p', q'⟩) p
    · rw [h2, h2']; exact w
theorem srP.low {r r' : Int32} (hn : n ≤ 8) (e : lowQ f g) (h : srP n k al be pr f r) (h' : srP n k al be pr g r') : r = r' := by
  have sp := e.spl hn
  rcases h with ⟨a, b⟩ | ⟨a, B, h, b⟩ <;> rcases h' with ⟨a', b'⟩ | ⟨a', B', h', b'⟩
  · rw [b, b']
  · exact absurd (sp.mp a) a'
  · exact absurd (sp.mpr a') a
  · rw [b, b']
    exact (srA.low hn (A := (1, fun _ => f, fun _ => 0, -1)) (A' := (1, fun _ => g, fun _ => 0, -1)) ⟨rfl, fun _ => e, rfl, rfl⟩ h h').2.2.2.symm
end LOWQ
