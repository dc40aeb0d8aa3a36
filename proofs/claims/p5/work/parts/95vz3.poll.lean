/-! polls, as far as who has polled what is concerned -/
/-- nodes, kinds, links, and what was polled, stay -/
def lowE (f g : Nat → Int32) : Prop := ∀ j, (j < 64 ∨ (72 ≤ j ∧ j < 80)) → g j = f j
theorem lowE.refl (f : Nat → Int32) : lowE f f := fun _ _ => rfl
theorem lowE.up {f g : Nat → Int32} (h : lowE f g) {i : Nat} (hi : (64 ≤ i ∧ i < 72) ∨ 80 ≤ i) (v : Int32) : lowE f (upd g i v) := fun j hj => by
  unfold upd
  rw [if_neg (by omega)]
  exact h j hj
theorem lowE.trans {f g h : Nat → Int32} (a : lowE f g) (b : lowE g h) : lowE f h := fun j hj => (b j hj).trans (a j hj)
theorem lowE.col {f g : Nat → Int32} (h : lowE f g) (hs : colP f) : colP g := fun a ha => by rw [h a (by omega)]; exact hs a ha
/-- what of so many entries was not polled -/
def leftF (en : Nat) (x : Int32) : Int32 := (((nI 1) <<< ((nI en) &&& 31)) - (nI 1)) &&& (x ^^^ -1)
theorem left_bit {en k : Nat} {x : Int32} (hen : en ≤ 16) (hk : k < 32) : hasB (leftF en x) k ↔ k < en ∧ ¬ hasB x k := by
  unfold leftF
  rw [hasB_and hk, hasB_msk hen hk, hasB_not hk]
theorem left_hi {en : Nat} {x : Int32} (hen : en ≤ 16) : ∀ k, 16 ≤ k → k < 32 → ¬ hasB (leftF en x) k := fun k h1 h2 q => by
  have := ((left_bit hen h2).mp q).1
  omega
theorem low16 {x : Int32} (h : ∀ k, 16 ≤ k → k < 32 → ¬ hasB x k) : ∃ v, v < 65536 ∧ x = nI v := by
  refine ⟨x.toBitVec.toNat % 2 ^ 16, Nat.mod_lt _ (by decide), ?_⟩
  apply hasB_ext
  intro k hk
  rw [hasB_iff hk, hasB_iff hk, nI_bit (Nat.lt_of_lt_of_le (Nat.mod_lt _ (by decide)) (by decide)), Nat.testBit_mod_two_pow]
  rcases Nat.lt_or_ge k 16 with q | q
  · rw [decide_eq_true q, Bool.true_and]; rfl
  · rw [decide_eq_false (by omega), Bool.false_and]
    have := h k q hk
    rw [hasB_iff hk] at this
    exact iff_of_false this (by decide)
theorem bc_16a : ∀ a, a < 256 → ∀ b, b < 256 → bcF (nI (256 * a + b)) = nI (cntL (nI (256 * a + b)) 16) := by decide +kernel
theorem bc_cnt16 {x : Int32} (h : ∀ k, 16 ≤ k → k < 32 → ¬ hasB x k) : bcF x = nI (cntL x 16) := by
  obtain ⟨v, hv, rfl⟩ := low16 h
  have := bc_16a (v / 256) (by omega) (v % 256) (by omega)
  rw [show 256 * (v / 256) + v % 256 = v by omega] at this
  exact this
theorem polU_col {f : Nat → Int32} (hs : colP f) {a : Nat} (v : Int32) : colP (upd f (72 + a) v) := colP_hi hs v (by omega)
/-- a poll that can be, of the model -/
def mcpP (n k : Nat) (f : Nat → Int32) (b : Int32) (a e : Nat) : Prop := msmP n k a b ∧ f (48 + a) = 0 ∧ ¬ hasB (f (72 + a)) e
def mcpA (n k en : Nat) (f : Nat → Int32) (x y b : Int32) : Prop := okN n x ∧ okN en y ∧ ∀ a e, a < n → e < en → x = nI a → y = nI e → mcpP n k f b a e
/-- one of the polls that are drawn, of the model -/
def stepPM (n k en : Nat) (s t : Int32 × (Nat → Int32)) : Prop := ∃ a, a < n ∧ nI a = drV (nxD s.1) (nI n) ∧ ((¬ (s.2 (48 + a) = 0 ∧ ¬ leftF en (s.2 (72 + a)) = 0) ∧ t = (nxD s.1, s.2)) ∨ (s.2 (48 + a) = 0 ∧ ¬ leftF en (s.2 (72 + a)) = 0 ∧ ∃ (e : Nat) (l S : Int32), e < en ∧ e = nthB (leftF en (s.2 (72 + a))) 31 (drV (nxD (nxD s.1)) (nI (cntL (leftF en (s.2 (72 + a))) 16))) ∧ dsI n (nxD (nxD s.1), lefI n a, nI 0) k t.1 l S ∧ lowE (upd s.2 (72 + a) (s.2 (72 + a) ||| bitI e)) t.2))
def polsM (n k en : Nat) : Nat → Int32 × (Nat → Int32) → Int32 × (Nat → Int32) → Prop
  | 0, s, t => t = s
  | o + 1, s, t => ∃ m, polsM n k en o s m ∧ stepPM n k en m t
/-- the same of the class -/
def ccpP (n k : Nat) (kf pof : Nat → Int32) (x b : Int32) (a e : Nat) : Prop := smpP n k x b ∧ kf a = 0 ∧ ¬ hasB (pof a) e
def ccpA (n k en : Nat) (kf pof : Nat → Int32) (x y b : Int32) : Prop := okN n x ∧ okN en y ∧ ∀ a e, a < n → e < en → x = nI a → y = nI e → ccpP n k kf pof x b a e
def stepPC (n k en : Nat) (kf : Nat → Int32) (s t : Int32 × (Nat → Int32)) : Prop := ∃ a, a < n ∧ nI a = drV (nxD s.1) (nI n) ∧ ((¬ (kf a = 0 ∧ ¬ leftF en (s.2 a) = 0) ∧ t = (nxD s.1, s.2)) ∨ (kf a = 0 ∧ ¬ leftF en (s.2 a) = 0 ∧ ∃ (e : Nat) (l S : Int32), e < en ∧ e = nthB (leftF en (s.2 a)) 31 (drV (nxD (nxD s.1)) (nI (cntL (leftF en (s.2 a)) 16))) ∧ dsI n (nxD (nxD s.1), lefI n a, nI 0) k t.1 l S ∧ ∀ j, j < 8 → t.2 j = upd s.2 a (s.2 a ||| bitI e) j))
def polsC (n k en : Nat) (kf : Nat → Int32) : Nat → Int32 × (Nat → Int32) → Int32 × (Nat → Int32) → Prop
  | 0, s, t => t = s
  | o + 1, s, t => ∃ m, polsC n k en kf o s m ∧ stepPC n k en kf m t
