/-! what is told of views -/
def alkC (gsf : Nat → Int32) (sef : Nat → Nat → Int32) (a b : Nat) : Nat → Nat → Prop
  | 0, c => c = 0
  | o + 1, c => ∃ c', alkC gsf sef a b o c' ∧ ((stdF (sef a (sT gsf o * 4 + 3)) o = stdF (sef b (sT gsf o * 4 + 3)) o ∧ c = c' + 1) ∨ (¬ stdF (sef a (sT gsf o * 4 + 3)) o = stdF (sef b (sT gsf o * 4 + 3)) o ∧ c = c'))
def stdM (f : Nat → Int32) (v e : Nat) : Int32 := if hasB (f (80 + v)) e then nI 1 else if hasB (f (88 + v)) e then nI 2 else nI 0
def alkM (f : Nat → Int32) (a b : Nat) : Nat → Nat → Prop
  | 0, c => c = 0
  | o + 1, c => ∃ c', alkM f a b o c' ∧ ((stdM f a o = stdM f b o ∧ c = c' + 1) ∨ (¬ stdM f a o = stdM f b o ∧ c = c'))
def viwC (gaf gsf gpf chf pof : Nat → Int32) (sef : Nat → Nat → Int32) (a e w : Nat) (r : Int32) : Prop := (w = 0 ∧ r = ((chf a) >>> ((nI e) &&& 31)) &&& (nI 1)) ∨ (w = 1 ∧ r = ((pof a) >>> ((nI e) &&& 31)) &&& (nI 1)) ∨ (w = 2 ∧ r = cnfC gpf (chf a) e) ∨ (w = 3 ∧ PQ (strC gaf gsf (sef a) e) r (nI 1) (nI 0)) ∨ (w = 4 ∧ r = stdF (sef a (sT gsf e * 4 + 3)) e)
def viwM (en : Nat) (sof anf f : Nat → Int32) (a e w : Nat) (r : Int32) : Prop := (w = 0 ∧ r = ((f (64 + a)) >>> ((nI e) &&& 31)) &&& (nI 1)) ∨ (w = 1 ∧ r = ((f (72 + a)) >>> ((nI e) &&& 31)) &&& (nI 1)) ∨ (w = 2 ∧ ∃ c, c ≤ 16 ∧ r = nI c ∧ cnfM en anf f a e c) ∨ (w = 3 ∧ PQ (strM en sof anf f a e) r (nI 1) (nI 0)) ∨ (w = 4 ∧ r = stdM f a e)
def setM (en : Nat) (sof f : Nat → Int32) (a t w : Nat) (r : Int32) : Prop := (w = 0 ∧ r = f (96 + (8 * a + t))) ∨ (w = 1 ∧ r = f (160 + (8 * a + t))) ∨ (w = 2 ∧ r = f (224 + (8 * a + t))) ∨ (w = 3 ∧ accM en sof f a (nI t) r)
section VANS
variable {n en v : Nat} {gsf g1f g2f gaf gpf gmf sof onf otf anf chf pof f : Nat → Int32} {sef : Nat → Nat → Int32}
theorem std_eq {se f : Nat → Int32} {ch po : Int32} {e : Nat} (hg : gphR en gsf g1f g2f gaf gpf gmf sof onf otf anf) (h : vewR en sof ch po se f v) (hso : inP 16 8 sof) (hen : en ≤ 16) (he : e < en) : stdF (se (sT gsf e * 4 + 3)) e = stdM f v e := by
  obtain ⟨h8, hs8⟩ := sT_eq hso (show e < 16 by omega)
  have h1 := std_1 hg h hso hen he
  have h5 := h.2.2.2.2.1 e he
  unfold stdM
  by_cases q : hasB (f (80 + v)) e
  · rw [if_pos q]; exact h1.mpr q
  · rw [if_neg q]
    rw [sT_c (hg.1 e he).1] at h1 ⊢
    have ha := (h.2.2.1 _ h8).2.2.2
    rw [← hs8] at ha
    rcases ha with ⟨e', he', w1, w2, w3⟩ | ⟨w1, w2⟩
    · have hne : ¬ e' = e := fun z => q (z ▸ w2)
      rw [if_pos (h5.mpr ⟨e', he', hne, w1, w2⟩)]
      unfold stdF
      rw [w3, if_neg (nI_ne_m1 (by omega)), if_neg (fun z => hne ((nI_eq (by omega) (by omega)).mp z))]
    · rw [if_neg (fun z => by obtain ⟨e', he', _, y1, y2⟩ := h5.mp z; exact w1 e' he' y1 y2)]
      unfold stdF
      rw [w2, if_pos rfl]
theorem alk_eq {a b : Nat} (hg : gphR en gsf g1f g2f gaf gpf gmf sof onf otf anf) (hv : vwsR en sof chf pof sef f) (hso : inP 16 8 sof) (hen : en ≤ 16) (ha : a < 8) (hb : b < 8) : ∀ o, o ≤ en → ∀ c c', alkC gsf sef a b o c → alkM f a b o c' → c = c' := by
  intro o
  induction o with
  | zero => intro _ c c' h1 h2; exact (show c = 0 from h1).trans (show c' = 0 from h2).symm
  | succ o ih =>
    rintro ho c c' ⟨d, h1, h2⟩ ⟨d', h3, h4⟩
    have e1 := ih (by omega) d d' h1 h3
    rw [std_eq hg (hv a ha) hso hen (show o < en by omega), std_eq hg (hv b hb) hso hen (show o < en by omega)] at h2
    rcases h2 with ⟨q1, q2⟩ | ⟨q1, q2⟩ <;> rcases h4 with ⟨w1, w2⟩ | ⟨w1, w2⟩
    · omega
    · exact absurd q1 w1
    · exact absurd w1 q1
    · omega
theorem viw_eq {a e w : Nat} {r r2 : Int32} (hg : gphR en gsf g1f g2f gaf gpf gmf sof onf otf anf) (hv : vwsR en sof chf pof sef f) (hso : inP 16 8 sof) (hen : en ≤ 16) (ha : a < 8) (he : e < en) (hc : viwC gaf gsf gpf chf pof sef a e w r) (hm : viwM en sof anf f a e w r2) : r = r2 := by
  obtain ⟨v1, v2, v3, v4, v5, v6, v7⟩ := hv a ha
  rcases hc with ⟨q, c⟩ | ⟨q, c⟩ | ⟨q, c⟩ | ⟨q, c⟩ | ⟨q, c⟩ <;> rcases hm with ⟨y, d⟩ | ⟨y, d⟩ | ⟨y, d⟩ | ⟨y, d⟩ | ⟨y, d⟩ <;> first | (exfalso; omega) | skip
  · rw [c, d, v1]
  · rw [c, d, v2]
  · obtain ⟨k, _, d1, d2⟩ := d
    rw [c, d1, v1]
    exact cnf_eq hg he hen (fun j h1 h2 => (v6 j h1 h2).1) d2
  · exact PQ.eq c (PQ.iff (str_iff hg (hv a ha) hso hen he).symm d)
  · rw [c, d]; exact std_eq hg (hv a ha) hso hen he
theorem set_eq {a t w : Nat} {r : Int32} (hv : vwsR en sof chf pof sef f) (ha : a < 8) (ht : t < 8) (hen : en ≤ 16) (hm : setM en sof f a t w r) : sef a (t * 4 + w) = r := by
  obtain ⟨v1, v2, v3, v4, v5, v6, v7⟩ := hv a ha
  obtain ⟨b0, b1, b2, b3⟩ := v3 t ht
  rcases hm with ⟨rfl, d⟩ | ⟨rfl, d⟩ | ⟨rfl, d⟩ | ⟨rfl, d⟩
  · rw [d]; exact b0
  · rw [d]; exact b1
  · rw [d]; exact b2
  · rcases b3 with ⟨e, he, w1, w2, w3⟩ | ⟨w1, w2⟩ <;> rcases d with ⟨e', he', y1, y2, y3⟩ | ⟨y1, y2⟩
    · rw [w3, y3, v4 e e' he he' w2 y2 (w1.trans y1.symm)]
    · exact absurd w2 (y1 e he w1)
    · exact absurd y2 (w1 e' he' y1)
    · rw [w2, y2]
end VANS
