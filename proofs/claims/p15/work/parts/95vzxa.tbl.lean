/-! a table that is probed one slot behind another -/
/-- of N slots, of sz things whose hashes are hs: a slot holds 0, or 1 more than the number of a thing; each thing lies behind its hash, with no free slot between -/
def tbX (N sz : Nat) (hs : Nat → Nat) (f : Nat → Int32) : Prop := (∀ i, i < N → f i = nI 0 ∨ ∃ m, m < sz ∧ f i = nI (m + 1)) ∧ (∀ i j, i < N → j < N → f i = f j → ¬ f i = nI 0 → i = j) ∧ ∀ m, m < sz → ∃ d, d < N ∧ f ((hs m + d) % N) = nI (m + 1) ∧ ∀ e, e < d → ¬ f ((hs m + e) % N) = nI 0
section TBX
variable {N sz h : Nat} {hs : Nat → Nat} {f : Nat → Int32}
theorem tbX.zero (N : Nat) (hs : Nat → Nat) {f : Nat → Int32} (hf : ∀ i, i < N → f i = nI 0) : tbX N 0 hs f := ⟨fun i hi => Or.inl (hf i hi), fun i j hi _ _ q => absurd (hf i hi) q, fun m hm => absurd hm (Nat.not_lt_zero _)⟩
theorem mod_cong {N k i j : Nat} (hi : i < N) (hj : j < N) (e : (k + i) % N = (k + j) % N) : i = j := by
  have a := Nat.div_add_mod (k + i) N
  have b := Nat.div_add_mod (k + j) N
  rw [e] at a
  rcases Nat.lt_trichotomy ((k + i) / N) ((k + j) / N) with q | q | q
  · have z := Nat.mul_le_mul_left N (show (k + i) / N + 1 ≤ (k + j) / N from q)
    rw [Nat.mul_add, Nat.mul_one] at z
    omega
  · rw [q] at a
    omega
  · have z := Nat.mul_le_mul_left N (show (k + j) / N + 1 ≤ (k + i) / N from q)
    rw [Nat.mul_add, Nat.mul_one] at z
    omega
/-- so many slots in a row are no more than there are things -/
theorem tbX.room {k c : Nat} (t : tbX N sz hs f) (hN : 0 < N) (hz : sz < 2 ^ 30) (hc : c ≤ N) (hv : ∀ i, i < c → ¬ f ((k + i) % N) = nI 0) : c ≤ sz := by
  refine pigeon sz c (fun i => (f ((k + i) % N)).toNatClampNeg - 1) (fun i hi => ?_) (fun i j hi hj e => ?_)
  · obtain ⟨m, hm, q⟩ := (t.1 _ (Nat.mod_lt (k + i) hN)).resolve_left (hv i hi)
    show (f ((k + i) % N)).toNatClampNeg - 1 < sz
    rw [q, nI_clamp (by omega)]
    omega
  · change (f ((k + i) % N)).toNatClampNeg - 1 = (f ((k + j) % N)).toNatClampNeg - 1 at e
    obtain ⟨m, hm, q⟩ := (t.1 _ (Nat.mod_lt (k + i) hN)).resolve_left (hv i hi)
    obtain ⟨m2, hm2, q2⟩ := (t.1 _ (Nat.mod_lt (k + j) hN)).resolve_left (hv j hj)
    rw [q, q2, nI_clamp (by omega), nI_clamp (by omega)] at e
    have z := t.2.1 _ _ (Nat.mod_lt (k + i) hN) (Nat.mod_lt (k + j) hN) (by rw [q, q2, show m + 1 = m2 + 1 by omega]) (hv i hi)
    exact mod_cong (by omega) (by omega) z
/-- behind c slots, none free, none with a thing like this one, a free slot: there is none like this one -/
theorem tbX.none {c : Nat} {P : Nat → Prop} (t : tbX N sz hs f) (hz : sz < 2 ^ 30) (hc : c < N) (hP : ∀ m, m < sz → P m → hs m = h) (h0 : f ((h + c) % N) = nI 0) (hv : ∀ e, e < c → ∀ m, m < sz → f ((h + e) % N) = nI (m + 1) → ¬ P m) : ∀ m, m < sz → ¬ P m := fun m hm p => by
  obtain ⟨d, hd, h1, h2⟩ := t.2.2 m hm
  rw [hP m hm p] at h1 h2
  rcases (show d < c ∨ d = c ∨ c < d by omega) with q | q | q
  · exact hv d q m hm h1 p
  · rw [q, h0] at h1
    have := (nI_eq (by decide) (by omega)).mp h1
    omega
  · exact h2 c q h0
/-- one more, in the free slot -/
theorem tbX.add {c : Nat} {hs' : Nat → Nat} (t : tbX N sz hs f) (hN : 0 < N) (hz : sz < 2 ^ 30) (hc : c < N) (hs1 : ∀ m, m < sz → hs' m = hs m) (hs2 : hs' sz = h) (h0 : f ((h + c) % N) = nI 0) (hv : ∀ e, e < c → ¬ f ((h + e) % N) = nI 0) : tbX N (sz + 1) hs' (upd f ((h + c) % N) (nI (sz + 1))) := by
  obtain ⟨t1, t2, t3⟩ := t
  have hk : (h + c) % N < N := Nat.mod_lt _ hN
  have u : ∀ j, upd f ((h + c) % N) (nI (sz + 1)) j = if j = (h + c) % N then nI (sz + 1) else f j := fun _ => rfl
  have ne0 : ¬ nI (sz + 1) = nI 0 := fun q => by have := (nI_eq (by omega) (by decide)).mp q; omega
  have fne : ∀ i, i < N → ¬ f i = nI (sz + 1) := fun i hi q => by
    rcases t1 i hi with z | ⟨m, hm, z⟩
    · exact ne0 (q.symm.trans z)
    · have := (nI_eq (by omega) (by omega)).mp (z.symm.trans q); omega
  refine ⟨fun i hi => ?_, fun i j hi hj e hn => ?_, fun m hm => ?_⟩
  · rw [u]
    by_cases q : i = (h + c) % N
    · rw [if_pos q]; exact Or.inr ⟨sz, by omega, rfl⟩
    · rw [if_neg q]
      rcases t1 i hi with z | ⟨m, hm, z⟩
      · exact Or.inl z
      · exact Or.inr ⟨m, by omega, z⟩
  · rw [u, u] at e
    rw [u] at hn
    by_cases q : i = (h + c) % N
    · by_cases w : j = (h + c) % N
      · rw [q, w]
      · rw [if_pos q, if_neg w] at e
        exact absurd e.symm (fne j hj)
    · by_cases w : j = (h + c) % N
      · rw [if_neg q, if_pos w] at e
        exact absurd e (fne i hi)
      · rw [if_neg q, if_neg w] at e
        rw [if_neg q] at hn
        exact t2 i j hi hj e hn
  · by_cases q : m = sz
    · subst q
      rw [hs2]
      refine ⟨c, hc, by rw [u, if_pos rfl], fun e he => ?_⟩
      rw [u]
      split
      · exact ne0
      · exact hv e he
    · obtain ⟨d, hd, h1, h2⟩ := t3 m (by omega)
      rw [hs1 m (by omega)]
      refine ⟨d, hd, ?_, fun e he => ?_⟩
      · rw [u]
        by_cases w : (hs m + d) % N = (h + c) % N
        · rw [w, h0] at h1
          have := (nI_eq (by decide) (by omega)).mp h1
          omega
        · rw [if_neg w]; exact h1
      · rw [u]
        split
        · exact ne0
        · exact h2 e he
end TBX
/-! the class's states -/
def hxM (m x : Int32) : Int32 := ((m ^^^ x) * (-1640531535)) ^^^ ((((m ^^^ x) * (-1640531535)).toUInt32 >>> ((nI 15).toUInt32 &&& Int32.toUInt32 31)).toInt32)
def hxF (f : Nat → Int32) : Nat → Int32
  | 0 => nI 0
  | i + 1 => hxM (hxF f i) (f i)
def hsN (f : Nat → Int32) : Nat := (hxF f 8 &&& nI 4095).toNatClampNeg
theorem hsN_eq (f : Nat → Int32) : hxF f 8 &&& nI 4095 = nI (hsN f) ∧ hsN f < 4096 := by
  obtain ⟨v, hv, e⟩ := pk_andE (hxF f 8) (m := nI 4095) 12 (by decide)
  unfold hsN
  rw [e, nI_clamp (by omega)]
  exact ⟨rfl, by omega⟩
theorem hxF_congr {f g : Nat → Int32} (h : ∀ j, j < 8 → f j = g j) : ∀ i, i ≤ 8 → hxF f i = hxF g i
  | 0, _ => rfl
  | i + 1, hi => by
    show hxM (hxF f i) (f i) = hxM (hxF g i) (g i)
    rw [hxF_congr h i (by omega), h i (by omega)]
theorem hsN_congr {f g : Nat → Int32} (h : ∀ j, j < 8 → f j = g j) : hsN f = hsN g := by
  unfold hsN
  rw [hxF_congr h 8 (Nat.le_refl _)]
/-- the row of a state -/
def rwE (rf : Nat → Int32) (m : Nat) (f : Nat → Int32) : Prop := ∀ j, j < 8 → rf (m * 8 + j) = f j
def hsR (rf : Nat → Int32) (m : Nat) : Nat := hsN (fun j => rf (m * 8 + j))
theorem rwE.hs {rf f : Nat → Int32} {m : Nat} (h : rwE rf m f) : hsR rf m = hsN f := hsN_congr h
/-- the table, and that no two are alike -/
def tbC (rf sf : Nat → Int32) (sz : Nat) : Prop := tbX 4096 sz (hsR rf) sf ∧ (∀ m m', m < sz → m' < sz → (∀ j, j < 8 → rf (m * 8 + j) = rf (m' * 8 + j)) → m = m') ∧ sz ≤ 2001
/-- where a state belongs: behind c slots that hold others -/
def slC (rf sf : Nat → Int32) (sz : Nat) (f : Nat → Int32) (c : Nat) : Prop := c < 4096 ∧ ∀ e, e < c → ¬ sf ((hsN f + e) % 4096) = nI 0 ∧ ∀ m, m < sz → sf ((hsN f + e) % 4096) = nI (m + 1) → ¬ rwE rf m f
theorem slC.next {rf sf : Nat → Int32} {sz i : Nat} {f : Nat → Int32} (h : ∀ e, e < i → ¬ sf ((hsN f + e) % 4096) = nI 0 ∧ ∀ m, m < sz → sf ((hsN f + e) % 4096) = nI (m + 1) → ¬ rwE rf m f) {q t : Nat} (hq : q = (hsN f + i) % 4096) (et : sf q = nI t) (ht : t < 2 ^ 31) (h0 : ¬ t = 0) (hn : ¬ rwE rf (t - 1) f) (hz : sz < 2 ^ 30) : ∀ e, e < i + 1 → ¬ sf ((hsN f + e) % 4096) = nI 0 ∧ ∀ m, m < sz → sf ((hsN f + e) % 4096) = nI (m + 1) → ¬ rwE rf m f := fun e he => by
  by_cases w : e = i
  · subst w
    rw [← hq, et]
    refine ⟨fun z => h0 ((nI_eq ht (by decide)).mp z), fun m hm z => ?_⟩
    have := (nI_eq ht (by omega)).mp z
    rw [show m = t - 1 by omega]
    exact hn
  · exact h e (by omega)
theorem tbC.full {rf sf : Nat → Int32} {sz i : Nat} {f : Nat → Int32} (t : tbC rf sf sz) (h : ∀ e, e < i → ¬ sf ((hsN f + e) % 4096) = nI 0 ∧ ∀ m, m < sz → sf ((hsN f + e) % 4096) = nI (m + 1) → ¬ rwE rf m f) (hi : i ≤ 4096) : i < 4096 := by
  have := t.1.room (k := hsN f) (by decide) (by have := t.2.2; omega) hi (fun e he => (h e he).1)
  have := t.2.2
  omega
theorem tbC.none {rf sf : Nat → Int32} {sz c : Nat} {f : Nat → Int32} (t : tbC rf sf sz) (h : slC rf sf sz f c) (h0 : sf ((hsN f + c) % 4096) = nI 0) : ∀ m, m < sz → ¬ rwE rf m f := t.1.none (by have := t.2.2; omega) h.1 (fun m _ p => p.hs) h0 (fun e he => (h.2 e he).2)
theorem tbC.add {rf sf rz : Nat → Int32} {sz c : Nat} {f : Nat → Int32} (t : tbC rf sf sz) (h : slC rf sf sz f c) (h0 : sf ((hsN f + c) % 4096) = nI 0) (hz : sz ≤ 2000) (h1 : ∀ j, j < sz * 8 → rz j = rf j) (h2 : ∀ j, j < 8 → rz (sz * 8 + j) = f j) : tbC rz (upd sf ((hsN f + c) % 4096) (nI (sz + 1))) (sz + 1) := by
  have e : ∀ m, m < sz → ∀ j, j < 8 → rz (m * 8 + j) = rf (m * 8 + j) := fun m hm j hj => h1 _ (by omega)
  refine ⟨t.1.add (by decide) (by omega) h.1 (fun m hm => hsN_congr (fun j hj => e m hm j hj)) (hsN_congr h2) h0 (fun q hq => (h.2 q hq).1), fun m m' hm hm' q => ?_, by omega⟩
  have nn := t.none h h0
  by_cases w : m = sz
  · by_cases w' : m' = sz
    · omega
    · exact absurd (fun j hj => by rw [← e m' (by omega) j hj, ← q j hj, w]; exact h2 j hj) (nn m' (by omega))
  · by_cases w' : m' = sz
    · exact absurd (fun j hj => by rw [← e m (by omega) j hj, q j hj, w']; exact h2 j hj) (nn m (by omega))
    · exact t.2.1 m m' (by omega) (by omega) (fun j hj => by rw [← e m (by omega) j hj, ← e m' (by omega) j hj]; exact q j hj)
theorem tbC.zero (rf sf : Nat → Int32) (h : ∀ i, i < 4096 → sf i = nI 0) : tbC rf sf 0 := ⟨tbX.zero 4096 _ h, fun m _ hm => absurd hm (Nat.not_lt_zero _), by decide⟩
