/-! the views, as the model has them -/
theorem bits_yes {P : Nat → Prop} {b : Int32} {o : Nat} (h : ∀ k, k < 32 → (hasB b k ↔ k < o ∧ P k)) (ho : o < 31) (c : P o) : ∀ k, k < 32 → (hasB (b ||| bitI o) k ↔ k < o + 1 ∧ P k) := fun k hk => by
  rw [hasB_orbit ho hk, h k hk]
  constructor
  · rintro (⟨q1, q2⟩ | rfl)
    · exact ⟨by omega, q2⟩
    · exact ⟨by omega, c⟩
  · rintro ⟨q1, q2⟩
    by_cases z : k = o
    · exact Or.inr z
    · exact Or.inl ⟨by omega, q2⟩
theorem bits_no {P : Nat → Prop} {b : Int32} {o : Nat} (h : ∀ k, k < 32 → (hasB b k ↔ k < o ∧ P k)) (c : ¬ P o) : ∀ k, k < 32 → (hasB b k ↔ k < o + 1 ∧ P k) := fun k hk => by
  rw [h k hk]
  constructor
  · rintro ⟨q1, q2⟩; exact ⟨by omega, q2⟩
  · rintro ⟨q1, q2⟩
    by_cases z : k = o
    · subst z; exact absurd q2 c
    · exact ⟨by omega, q2⟩
theorem bits_0 (P : Nat → Prop) : ∀ k, k < 32 → (hasB (nI 0) k ↔ k < 0 ∧ P k) := fun k hk => ⟨fun q => absurd q (hasB_0 hk), fun q => absurd q.1 (Nat.not_lt_zero _)⟩
def prgP (en : Nat) (anf : Nat → Int32) (e : Nat) (pg : Int32) : Prop := ∀ k, k < 32 → (hasB pg k ↔ k < en ∧ hasB (anf k) e)
def accM (en : Nat) (sof f : Nat → Int32) (v : Nat) (x r : Int32) : Prop := (∃ e, e < en ∧ sof e = x ∧ hasB (f (80 + v)) e ∧ r = nI e) ∨ ((∀ e, e < en → sof e = x → ¬ hasB (f (80 + v)) e) ∧ r = -1)
def cnfM (en : Nat) (anf f : Nat → Int32) (v e c : Nat) : Prop := ∃ pg, prgP en anf e pg ∧ c = cntL (f (64 + v) &&& (pg ||| bitI e)) 16
def strM (en : Nat) (sof anf f : Nat → Int32) (v e : Nat) : Prop := ∀ i, i < en → hasB (anf e ||| bitI e) i → f (96 + 8 * v + sT sof i) = nI i
def sysM (en : Nat) (sof anf f : Nat → Int32) (b a e : Nat) : Prop := hasB (f (56 + a)) b ∧ ((f (48 + b) = 0 ∧ strM en sof anf f b e) ∨ f (48 + b) = nI 2 ∨ (f (48 + b) = nI 3 ∧ ¬ strM en sof anf f a e))
def yesM (en : Nat) (sof anf f : Nat → Int32) (a e : Nat) (x : Int32) : Nat → Nat → Prop
  | 0, c => c = 0
  | o + 1, c => ∃ c', yesM en sof anf f a e x o c' ∧ (((hasB x o ∧ sysM en sof anf f o a e) ∧ c = c' + 1) ∨ (¬ (hasB x o ∧ sysM en sof anf f o a e) ∧ c = c'))
def mrkM (en : Nat) (sof anf : Nat → Int32) (a k : Nat) (x : Int32) (f g : Nat → Int32) : Prop := (x = 0 ∧ g = upd f (224 + (8 * a + sT sof k)) (nI 0)) ∨ (¬ x = 0 ∧ ∃ (p c1 c2 : Nat) (m : Nat → Int32), p < 16 ∧ c1 ≤ 16 ∧ c2 ≤ 16 ∧ f (96 + (8 * a + sT sof k)) = nI p ∧ cnfM en anf f a k c1 ∧ cnfM en anf f a p c2 ∧ ((c2 < c1 ∧ m = upd f (96 + (8 * a + sT sof k)) (nI k)) ∨ (¬ c2 < c1 ∧ m = f)) ∧
  ((m (160 + (8 * a + sT sof k)) = nI k ∧ g = upd m (224 + (8 * a + sT sof k)) (m (224 + (8 * a + sT sof k)) + nI 1)) ∨ (¬ m (160 + (8 * a + sT sof k)) = nI k ∧ g = upd (upd m (160 + (8 * a + sT sof k)) (nI k)) (224 + (8 * a + sT sof k)) (nI 1))))
def aloM (en : Nat) (sof : Nat → Int32) (e : Nat) : Prop := ∀ i, i < en → ¬ i = e → ¬ sof i = sof e
def araM (onf otf f : Nat → Int32) (a e : Nat) : Prop := (∀ j, j < 16 → onf e = nI j → hasB (f (80 + a)) j) ∧ (∀ j, j < 16 → otf e = nI j → hasB (f (80 + a)) j)
/-- an entry is accepted now -/
def ripM (en be : Nat) (ea : Int32) (sof onf otf : Nat → Int32) (a k : Nat) (f : Nat → Int32) : Prop := (∀ e, e < en → sof e = sof k → ¬ hasB (f (80 + a)) e) ∧ f (160 + (8 * a + sT sof k)) = nI k ∧ f (96 + (8 * a + sT sof k)) = nI k ∧ (nI be ≤ f (224 + (8 * a + sT sof k)) ∨ (aloM en sof k ∧ araM onf otf f a k ∧ ea ≤ f (224 + (8 * a + sT sof k))))
def rejM (en : Nat) (sof : Nat → Int32) (a k : Nat) (f g : Nat → Int32) : Prop := (∀ j, ¬ j = 88 + a → g j = upd f (80 + a) (f (80 + a) ||| bitI k) j) ∧ ∀ i, i < 32 → (hasB (g (88 + a)) i ↔ hasB (f (88 + a)) i ∨ (i < en ∧ ¬ i = k ∧ sof i = sof k))
def mksM (en : Nat) (sof anf : Nat → Int32) (a : Nat) (th x : Int32) : Nat → (Nat → Int32) → (Nat → Int32) → Prop
  | 0, f, g => g = f
  | o + 1, f, g => ∃ m, mksM en sof anf a th x o f m ∧ (((hasB th o ∧ ∀ e, e < en → sof e = sof o → ¬ hasB (m (80 + a)) e) ∧ mrkM en sof anf a o x m g) ∨ (¬ (hasB th o ∧ ∀ e, e < en → sof e = sof o → ¬ hasB (m (80 + a)) e) ∧ g = m))
def acsM (en be : Nat) (ea : Int32) (sof onf otf : Nat → Int32) (a : Nat) (th : Int32) : Nat → (Nat → Int32) → (Nat → Int32) → Nat → Prop
  | 0, f, g, b => g = f ∧ b = 0
  | o + 1, f, g, b => ∃ m c, acsM en be ea sof onf otf a th o f m c ∧ (((hasB th o ∧ ripM en be ea sof onf otf a o m) ∧ rejM en sof a o m g ∧ b = 1) ∨ (¬ (hasB th o ∧ ripM en be ea sof onf otf a o m) ∧ g = m ∧ b = c))
/-- a poll, of the model -/
def hldM (n al be en : Nat) (ea : Int32) (sof onf otf anf : Nat → Int32) (a e : Nat) (x r : Int32) (f g : Nat → Int32) : Prop := ∃ (c b : Nat) (m h : Nat → Int32), c ≤ 8 ∧ yesM en sof anf f a e x n c ∧
  ((c < al ∧ h = upd f (72 + a) (f (72 + a) ||| bitI e) ∧ mksM en sof anf a (anf e ||| bitI e) (nI 0) en h m) ∨ (¬ c < al ∧ h = upd (upd f (72 + a) (f (72 + a) ||| bitI e)) (64 + a) ((upd f (72 + a) (f (72 + a) ||| bitI e)) (64 + a) ||| bitI e) ∧ mksM en sof anf a (anf e ||| bitI e) (nI 1) en h m)) ∧
  acsM en be ea sof onf otf a (anf e ||| bitI e) en m g b ∧ ((¬ b = 0 ∧ r = nI 2) ∨ (b = 0 ∧ ¬ c < al ∧ r = nI 1) ∨ (b = 0 ∧ c < al ∧ r = nI 0))
