/-! the views, as the class has them -/
def sT (gsf : Nat → Int32) (e : Nat) : Nat := (gsf e).toNatClampNeg
theorem sT_of {gsf : Nat → Int32} {e t : Nat} (h : gsf e = nI t) (ht : t < 8) : sT gsf e = t := by unfold sT; rw [h, nI_clamp (by omega)]
theorem sT_eq {gsf : Nat → Int32} {e : Nat} (hgs : inP 16 8 gsf) (he : e < 16) : sT gsf e < 8 ∧ gsf e = nI (sT gsf e) := by
  obtain ⟨t, ht, h⟩ := hgs e he
  rw [sT_of h ht]
  exact ⟨ht, h⟩
def stdF (acc : Int32) (e : Nat) : Int32 := if acc = -1 then nI 0 else if acc = nI e then nI 1 else nI 2
def strC (gaf gsf f : Nat → Int32) (e : Nat) : Prop := ∀ i, i ≤ e → hasB (gaf e ||| bitI e) i → f (sT gsf i * 4 + 0) = nI i
def cnfC (gpf : Nat → Int32) (ch : Int32) (e : Nat) : Int32 := bcF (ch &&& (gpf e ||| bitI e))
def opnC (gsf : Nat → Int32) (x : Int32) (f : Nat → Int32) (e : Nat) : Prop := hasB x e ∧ f (sT gsf e * 4 + 3) = -1
def losC (gsf : Nat → Int32) (x : Int32) : Nat → (Nat → Int32) → (Nat → Int32) → Prop
  | 0, f, g => g = f
  | o + 1, f, g => ∃ m, losC gsf x o f m ∧ ((opnC gsf x m o ∧ g = upd m (sT gsf o * 4 + 2) (nI 0)) ∨ (¬ opnC gsf x m o ∧ g = m))
def prfC (gpf : Nat → Int32) (ch : Int32) (t e : Nat) (f : Nat → Int32) : Prop := f (t * 4 + 0) = -1 ∨ cnfC gpf ch (f (t * 4 + 0)).toNatClampNeg < cnfC gpf ch e
def gaP (gpf : Nat → Int32) (ch : Int32) (t e : Nat) (f g : Nat → Int32) : Prop := ∃ m, ((prfC gpf ch t e f ∧ m = upd f (t * 4 + 0) (nI e)) ∨ (¬ prfC gpf ch t e f ∧ m = f)) ∧ ((m (t * 4 + 1) = nI e ∧ g = upd m (t * 4 + 2) (m (t * 4 + 2) + nI 1)) ∨ (¬ m (t * 4 + 1) = nI e ∧ g = upd (upd m (t * 4 + 1) (nI e)) (t * 4 + 2) (nI 1)))
def gaiC (gsf gpf : Nat → Int32) (ch x : Int32) : Nat → (Nat → Int32) → (Nat → Int32) → Prop
  | 0, f, g => g = f
  | o + 1, f, g => ∃ m, gaiC gsf gpf ch x o f m ∧ ((opnC gsf x m o ∧ gaP gpf ch (sT gsf o) o m g) ∨ (¬ opnC gsf x m o ∧ g = m))
def parB (g1f g2f : Nat → Int32) (e : Nat) : Int32 := (if g1f e = -1 then nI 0 else (nI 1) <<< ((g1f e) &&& 31)) ||| (if g2f e = -1 then nI 0 else (nI 1) <<< ((g2f e) &&& 31))
def araC (en : Nat) (gsf f : Nat → Int32) (x : Int32) : Prop := ∀ i, i < en → hasB x i → stdF (f (sT gsf i * 4 + 3)) i = nI 1
def ripC (en be : Nat) (ea : Int32) (gsf g1f g2f gmf : Nat → Int32) (t e : Nat) (f : Nat → Int32) : Prop := f (t * 4 + 1) = nI e ∧ f (t * 4 + 0) = nI e ∧ (nI be ≤ f (t * 4 + 2) ∨ (ea ≤ f (t * 4 + 2) ∧ gmf (sT gsf e) = bitI e ∧ araC en gsf f (parB g1f g2f e)))
def accC (en be : Nat) (ea : Int32) (gsf g1f g2f gmf : Nat → Int32) (x : Int32) : Nat → (Nat → Int32) → (Nat → Int32) → Nat → Prop
  | 0, f, g, b => g = f ∧ b = 0
  | o + 1, f, g, b => ∃ m c, accC en be ea gsf g1f g2f gmf x o f m c ∧ (((opnC gsf x m o ∧ ripC en be ea gsf g1f g2f gmf (sT gsf o) o m) ∧ g = upd m (sT gsf o * 4 + 3) (nI o) ∧ b = 1) ∨ (¬ (opnC gsf x m o ∧ ripC en be ea gsf g1f g2f gmf (sT gsf o) o m) ∧ g = m ∧ b = c))
/-- who says yes -/
def sysC (kf gaf gsf : Nat → Int32) (sef : Nat → Nat → Int32) (j e : Nat) (x : Int32) : Prop := (kf j = nI 0 ∧ strC gaf gsf (sef j) e) ∨ kf j = nI 2 ∨ (kf j = nI 3 ∧ x = nI 0)
def yesC (lf kf gaf gsf : Nat → Int32) (sef : Nat → Nat → Int32) (i e : Nat) (x sx : Int32) : Nat → Nat → Prop
  | 0, c => c = 0
  | o + 1, c => ∃ c', yesC lf kf gaf gsf sef i e x sx o c' ∧ (((hasB x o ∧ hasB (lf i) o ∧ sysC kf gaf gsf sef o e sx) ∧ c = c' + 1) ∨ (¬ (hasB x o ∧ hasB (lf i) o ∧ sysC kf gaf gsf sef o e sx) ∧ c = c'))
/-- how many say yes -/
def yesN (n : Nat) (lf kf gaf gsf : Nat → Int32) (sef : Nat → Nat → Int32) (i e : Nat) (x : Int32) (c : Nat) : Prop := ∃ sx, PQ (strC gaf gsf (sef i) e) sx (nI 1) (nI 0) ∧ yesC lf kf gaf gsf sef i e x sx n c
/-- a poll held -/
def hldC (n al be en : Nat) (ea : Int32) (lf kf gsf g1f g2f gaf gpf gmf chf : Nat → Int32) (sef : Nat → Nat → Int32) (i e : Nat) (x r : Int32) (chz : Nat → Int32) (sez : Nat → Nat → Int32) : Prop := ∃ c, yesN n lf kf gaf gsf sef i e x c ∧ (∀ j, j < 8 → ¬ j = i → chz j = chf j ∧ sez j = sef j) ∧
  ((c < al ∧ r = nI 0 ∧ chz i = chf i ∧ losC gsf (gaf e ||| bitI e) en (sef i) (sez i)) ∨ (¬ c < al ∧ chz i = chf i ||| bitI e ∧ ∃ m b, gaiC gsf gpf (chf i ||| bitI e) (gaf e ||| bitI e) en (sef i) m ∧ accC en be ea gsf g1f g2f gmf (gaf e ||| bitI e) en m (sez i) b ∧ ((b = 0 ∧ r = nI 1) ∨ (¬ b = 0 ∧ r = nI 2))))
