/-! the whole search, as the class goes through it -/
theorem tbC.first {rf sf f : Nat → Int32} {c : Nat} (h0 : ∀ i, i < 4096 → sf i = nI 0) (hsl : slC rf sf 0 f c) : tbC (va_cpy f rf 0 0 8) (upd sf ((hsN f + c) % 4096) (nI 1)) 1 :=
  (tbC.zero rf sf h0).add hsl (h0 _ (Nat.mod_lt _ (by decide))) (by decide) (fun j hj => absurd hj (Nat.not_lt_zero j)) (fun j hj => cpy_at hj)
/-- where it begins -/
abbrev srB (F : Nat → Int32) : srS := (1, fun _ => F, fun _ => 0, -1)
theorem srI.start {n be : Nat} {kf lf nf F rz fz pf : Nat → Int32} (hr : relR be nf kf lf F) (hs : ¬ splP n F) (ho : okF F) (ht : tbC rz fz 1) (hz : ∀ j, j < 8 → rz j = nf j) : srI n be kf lf rz fz pf 1 (srB F) := by
  refine ⟨ht, rfl, fun m hm => ?_, ⟨rfl, fun m hm h0 => by omega⟩, fun m hm => ⟨hs, ho⟩, rfl, by decide⟩
  obtain rfl : m = 0 := by omega
  exact hr.congr (fun j hj => (show rz (0 * 8 + j) = nf j by rw [Nat.zero_mul, Nat.zero_add]; exact hz j hj))
/-- in front of the o-th state -/
def frA (n k al be : Nat) (pr : Int32) (kf lf F : Nat → Int32) (o : Nat) (e1 gf : Int32) (c1 c2 c3 : Nat → Int32) (gz : Nat) : Prop := (splP n F ∧ e1 = nI 1 ∧ gf = nI 0) ∨
  (¬ splP n F ∧ ∃ B, srA n k al be pr o (srB F) B ∧ ((e1 = nI 0 ∧ srI n be kf lf c1 c2 c3 gz B ∧ gf = -1) ∨ (e1 = nI 1 ∧ ¬ B.2.2.2 = -1 ∧ gf = B.2.2.2)))
/-- in front of the o2-th node of the o-th state -/
def frN (n k al be : Nat) (pr : Int32) (kf lf F : Nat → Int32) (o o2 : Nat) (e2 gf : Int32) (c1 c2 c3 : Nat → Int32) (gz : Nat) : Prop := ¬ splP n F ∧ ∃ C B, srA n k al be pr o (srB F) C ∧ C.2.2.2 = -1 ∧ o < C.1 ∧ srN n k al be pr o o2 C B ∧
  ((e2 = nI 0 ∧ srI n be kf lf c1 c2 c3 gz B ∧ o < gz ∧ gf = -1) ∨ (e2 = nI 1 ∧ ¬ B.2.2.2 = -1 ∧ gf = B.2.2.2))
section FRA
variable {n k al be o o2 gz zz : Nat} {pr e1 e2 gf r fewz : Int32} {kf lf F c1 c2 c3 rz fz pz : Nat → Int32}
theorem frA.split (h : splP n F) : frA n k al be pr kf lf F 0 (nI 1) (nI 0) c1 c2 c3 gz := Or.inl ⟨h, rfl, rfl⟩
theorem frA.zero (h : ¬ splP n F) (hI : srI n be kf lf c1 c2 c3 gz (srB F)) : frA n k al be pr kf lf F 0 (nI 0) (-1) c1 c2 c3 gz := Or.inr ⟨h, srB F, rfl, Or.inl ⟨rfl, hI, rfl⟩⟩
theorem frA.node (h : frA n k al be pr kf lf F o e1 gf c1 c2 c3 gz) (he : e1 = 0) (ho : o < gz) : frN n k al be pr kf lf F o 0 e1 gf c1 c2 c3 gz := by
  have no : ¬ e1 = nI 1 := fun q => absurd (he.symm.trans q) (by decide)
  rcases h with ⟨_, q, _⟩ | ⟨hs, B, hB, ⟨q, hI, hf⟩ | ⟨q, _⟩⟩
  · exact absurd q no
  · exact ⟨hs, B, B, hB, hI.2.2.2.2.2.1, by rw [hI.2.1]; exact ho, rfl, Or.inl ⟨q, hI, ho, hf⟩⟩
  · exact absurd q no
/-- its query can't be -/
theorem frN.no (h : frN n k al be pr kf lf F o o2 e2 gf c1 c2 c3 gz) (he : e2 = 0) (ho2 : o2 < 8) (hq : ¬ askP o2 (fun j => c1 (o * 8 + j)) kf) : frN n k al be pr kf lf F o (o2 + 1) (nI 0) gf c1 c2 c3 gz := by
  obtain ⟨hs, C, B, hC, h1, h2, hN, ⟨q, hI, ho, hf⟩ | ⟨q, _⟩⟩ := h
  · exact ⟨hs, C, B, hC, h1, h2, ⟨B, hN, Or.inr ⟨fun z => hq ((ask_iff (hI.2.2.1 o ho o2 ho2)).mpr z), rfl⟩⟩, Or.inl ⟨rfl, hI, ho, hf⟩⟩
  · exact absurd (he.symm.trans q) (by decide)
/-- it was opened -/
theorem frN.yes (h : frN n k al be pr kf lf F o o2 e2 gf c1 c2 c3 gz) (ho2 : o2 < 8) (hq : askP o2 (fun j => c1 (o * 8 + j)) kf) {B : srS} (hI : srI n be kf lf c1 c2 c3 gz B) (hB : ∃ C, srA n k al be pr o (srB F) C ∧ C.2.2.2 = -1 ∧ o < C.1 ∧ srN n k al be pr o o2 C B) (ho : o < gz) (hf : gf = -1)
    (hc : opR n k al be pr kf lf c1 gz B o o2 gf r fewz rz fz pz zz) : frN n k al be pr kf lf F o (o2 + 1) r fewz rz fz pz zz := by
  obtain ⟨C, hC, h1, h2, hN⟩ := hB
  obtain ⟨D, hD, hr⟩ := hc
  refine ⟨h.1, C, D, hC, h1, h2, ⟨B, hN, Or.inl ⟨(ask_iff (hI.2.2.1 o ho o2 ho2)).mp hq, hD⟩⟩, ?_⟩
  rcases hr with ⟨q1, q2, q3, q4, _⟩ | ⟨q1, q2, q3⟩
  · exact Or.inl ⟨q1, q3, by omega, q2.trans hf⟩
  · exact Or.inr ⟨q1, q2, q3⟩
theorem frN.get (h : frN n k al be pr kf lf F o o2 e2 gf c1 c2 c3 gz) (he : e2 = 0) : ∃ B, srI n be kf lf c1 c2 c3 gz B ∧ (∃ C, srA n k al be pr o (srB F) C ∧ C.2.2.2 = -1 ∧ o < C.1 ∧ srN n k al be pr o o2 C B) ∧ o < gz ∧ gf = -1 := by
  obtain ⟨hs, C, B, hC, h1, h2, hN, ⟨q, hI, ho, hf⟩ | ⟨q, _⟩⟩ := h
  · exact ⟨B, hI, ⟨C, hC, h1, h2, hN⟩, ho, hf⟩
  · exact absurd (he.symm.trans q) (by decide)
/-- the state is done -/
theorem frN.end (h : frN n k al be pr kf lf F o o2 e2 gf c1 c2 c3 gz) (ho : o2 ≤ n) (hd : n ≤ o2 ∨ ¬ e2 = 0) : frA n k al be pr kf lf F (o + 1) e2 gf c1 c2 c3 gz := by
  obtain ⟨hs, C, B, hC, h1, h2, hN, hh⟩ := h
  have hN2 : srN n k al be pr o n C B := by
    rcases hh with ⟨q, _⟩ | ⟨_, q, _⟩
    · obtain rfl : o2 = n := by
        rcases hd with d | d
        · omega
        · exact absurd q d
      exact hN
    · exact srN.dead q ho hN
  refine Or.inr ⟨hs, B, ⟨C, hC, Or.inl ⟨h1, h2, hN2⟩⟩, ?_⟩
  rcases hh with ⟨q, hI, _, hf⟩ | ⟨q1, q2, q3⟩
  · exact Or.inl ⟨q, hI, hf⟩
  · exact Or.inr ⟨q1, q2, q3⟩
/-- the search is done -/
theorem frA.end (h : frA n k al be pr kf lf F o e1 gf c1 c2 c3 gz) (ho : o ≤ 2000) (hd : 2000 ≤ o ∨ gz ≤ o ∨ ¬ e1 = 0) : srP n k al be pr F gf := by
  rcases h with ⟨hs, _, hf⟩ | ⟨hs, B, hB, hh⟩
  · exact Or.inl ⟨hs, hf⟩
  · refine Or.inr ⟨hs, B, ?_, ?_⟩
    · by_cases q : o = 2000
      · subst q; exact hB
      · refine hB.rest ho ?_
        rcases hh with ⟨q1, hI, _⟩ | ⟨_, q2, _⟩
        · rcases hd with d | d | d
          · omega
          · exact Or.inr (by rw [hI.2.1]; exact d)
          · exact absurd q1 d
        · exact Or.inl q2
    · rcases hh with ⟨_, hI, hf⟩ | ⟨_, _, hf⟩
      · rw [hf, hI.2.2.2.2.2.1]
      · exact hf
end FRA
theorem askP_base {b i : Nat} {f kf : Nat → Int32} : (kf i = nI 0 ∧ f (b + i) &&& dcM = 0 ∧ ¬ colF (f (b + i)) = -1) ↔ askP i (fun j => f (b + j)) kf := by
  unfold askP
  simp only [Nat.zero_add]
theorem opR.one {n k al be sz v i zz : Nat} {pr few r fewz : Int32} {kf lf rf rz fz pz : Nat → Int32} {A : srS} (h : opR n k al be pr kf lf rf sz A v i few r fewz rz fz pz zz) (c : ¬ r = 0) : r = nI 1 := by
  obtain ⟨_, _, ⟨q, _⟩ | ⟨q, _⟩⟩ := h
  · exact absurd q c
  · exact q
