/-! an entry laid down -/
theorem or_0l (x : Int32) : nI 0 ||| x = x := Int32.zero_or
def linF (gaf : Nat → Int32) (x : Int32) : Int32 := if x = -1 then nI 0 else gaf x.toNatClampNeg ||| bitI x.toNatClampNeg
def prgF (gpf : Nat → Int32) (w : Int32) (en o j : Nat) : Int32 := if j < o then gpf j ||| (((w >>> ((nI j) &&& 31)) &&& (nI 1)) <<< ((nI en) &&& 31)) else upd gpf en (nI 0) j
theorem prgF_s {gpf g9 : Nat → Int32} {w : Int32} {en o : Nat} (ho : o < en) (h : ∀ j, g9 j = prgF gpf w en o j) (j : Nat) : upd g9 o (g9 o ||| (((w >>> ((nI o) &&& 31)) &&& (nI 1)) <<< ((nI en) &&& 31))) j = prgF gpf w en (o + 1) j := by
  unfold upd
  by_cases q : j = o
  · subst q
    rw [if_pos rfl, h j]
    unfold prgF upd
    rw [if_neg (Nat.lt_irrefl _), if_neg (by omega), if_pos (Nat.lt_succ_self _)]
  · rw [if_neg q, h j]
    unfold prgF
    by_cases z : j < o
    · rw [if_pos z, if_pos (by omega)]
    · rw [if_neg z, if_neg (by omega)]
theorem one_bit {z : Int32} {j en k : Nat} (hj : j < 32) (he : en < 31) (hk : k < 32) : hasB (((z >>> ((nI j) &&& 31)) &&& (nI 1)) <<< ((nI en) &&& 31)) k ↔ k = en ∧ hasB z j := by
  have h01 : (z >>> ((nI j) &&& 31)) &&& (nI 1) = nI 1 ∨ (z >>> ((nI j) &&& 31)) &&& (nI 1) = nI 0 := by
    have := pk_andE (z >>> ((nI j) &&& 31)) (m := nI 1) 1 (by decide)
    obtain ⟨v, hv, e⟩ := this
    rw [e]
    rcases (show v = 0 ∨ v = 1 by omega) with rfl | rfl
    · exact Or.inr rfl
    · exact Or.inl rfl
  rcases h01 with h | h
  · rw [h]
    rw [show (nI 1) <<< ((nI en) &&& 31) = bitI en from rfl, hasB_bit he hk]
    exact ⟨fun q => ⟨q, h⟩, fun q => q.1⟩
  · rw [h]
    have e : ∀ en, en < 31 → (nI 0) <<< ((nI en) &&& 31) = nI 0 := by decide
    rw [e en he]
    refine ⟨fun q => absurd q (hasB_0 hk), fun q => ?_⟩
    have q2 : (z >>> ((nI j) &&& 31)) &&& (nI 1) = nI 1 := q.2
    rw [h] at q2
    exact absurd q2 (by decide)
/-- what the class lays down -/
def addC (en s9 : Nat) (x y : Int32) (gsf g1f g2f gaf gpf gmf gz g1z g2z gaz gpz gmz : Nat → Int32) : Prop := gz = upd gsf en (nI s9) ∧ g1z = upd g1f en x ∧ g2z = upd g2f en y ∧ gaz = upd gaf en (linF gaf x ||| linF gaf y) ∧ (∀ j, gpz j = prgF gpf (linF gaf x ||| linF gaf y) en en j) ∧ gmz = upd gmf s9 (gmf s9 ||| bitI en)
/-- the views, of the model -/
def entV (en : Nat) (soz : Nat → Int32) (t o : Nat) (f g : Nat → Int32) : Prop := (∀ v, v < o → g (96 + 8 * v + t) = (if f (96 + 8 * v + t) < 0 then nI en else f (96 + 8 * v + t)) ∧ (((∃ e, e < en + 1 ∧ soz e = nI t ∧ hasB (f (80 + v)) e) ∧ g (88 + v) = f (88 + v) ||| bitI en) ∨ ((∀ e, e < en + 1 → soz e = nI t → ¬ hasB (f (80 + v)) e) ∧ g (88 + v) = f (88 + v)))) ∧ ∀ j, (∀ v, v < o → ¬ j = 96 + 8 * v + t ∧ ¬ j = 88 + v) → g j = f j
theorem entV_0 (en : Nat) (soz : Nat → Int32) (t : Nat) (f : Nat → Int32) : entV en soz t 0 f f := ⟨fun v hv => absurd hv (Nat.not_lt_zero _), fun _ _ => rfl⟩
theorem entV_s {en t o : Nat} {soz f g g1 g2 : Nat → Int32} {r : Int32} (ho : o < 8) (ht : t < 8) (hen : en < 16) (h : entV en soz t o f g) (h1 : (g (96 + 8 * o + t) < 0 ∧ g1 = upd g (96 + 8 * o + t) (nI en)) ∨ (¬ g (96 + 8 * o + t) < 0 ∧ g1 = g)) (ha : accM (en + 1) soz g1 o (nI t) r) (h2 : (r < 0 ∧ g2 = g1) ∨ (¬ r < 0 ∧ g2 = upd g1 (88 + o) (g1 (88 + o) ||| bitI en))) : entV en soz t (o + 1) f g2 := by
  obtain ⟨p, q⟩ := h
  have eo : ∀ j, (j = 96 + 8 * o + t ∨ j = 88 + o ∨ j = 80 + o) → g j = f j := fun j hj => q j (fun v hv => by omega)
  have e1 : ∀ j, ¬ j = 96 + 8 * o + t → g1 j = g j := fun j hj => by
    rcases h1 with ⟨_, rfl⟩ | ⟨_, rfl⟩
    · exact upN _ _ hj
    · rfl
  have e2 : ∀ j, ¬ j = 88 + o → g2 j = g1 j := fun j hj => by
    rcases h2 with ⟨_, rfl⟩ | ⟨_, rfl⟩
    · rfl
    · exact upN _ _ hj
  have a80 : g1 (80 + o) = f (80 + o) := (e1 _ (by omega)).trans (eo _ (Or.inr (Or.inr rfl)))
  have a88 : g1 (88 + o) = f (88 + o) := (e1 _ (by omega)).trans (eo _ (Or.inr (Or.inl rfl)))
  unfold accM at ha
  rw [a80] at ha
  constructor
  · intro v hv
    by_cases w : v = o
    · subst w
      constructor
      · rw [e2 _ (by omega)]
        rw [eo _ (Or.inl rfl)] at h1
        rcases h1 with ⟨c, rfl⟩ | ⟨c, rfl⟩
        · rw [if_pos c, upA]
        · rw [if_neg c]; exact eo _ (Or.inl rfl)
      · rcases ha with ⟨e, he, w1, w2, w3⟩ | ⟨w1, w2⟩
        · rcases h2 with ⟨c, _⟩ | ⟨c, rfl⟩
          · rw [w3] at c
            exact absurd c (Int32.not_lt.mpr ((nI_leI (a := 0) (by decide) (by omega)).mpr (Nat.zero_le _)))
          · exact Or.inl ⟨⟨e, he, w1, w2⟩, by rw [upA, a88]⟩
        · rcases h2 with ⟨c, rfl⟩ | ⟨c, _⟩
          · exact Or.inr ⟨w1, a88⟩
          · exact absurd (by rw [w2]; decide) c
    · obtain ⟨p1, p2⟩ := p v (by omega)
      rw [e2 _ (by omega), e1 _ (by omega), e2 _ (by omega), e1 _ (by omega)]
      exact ⟨p1, p2⟩
  · intro j hj
    have := hj o (by omega)
    rw [e2 _ this.2, e1 _ this.1]
    exact q j (fun v hv => hj v (by omega))
