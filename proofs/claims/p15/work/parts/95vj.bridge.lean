/-! both sides of one query -/
theorem ite_iff {α : Type} {P Q : Prop} [Decidable P] [Decidable Q] (h : P ↔ Q) (a b : α) : (if P then a else b) = if Q then a else b := by
  by_cases p : P
  · rw [if_pos p, if_pos (h.mp p)]
  · rw [if_neg p, if_neg (fun q => p (h.mpr q))]
theorem cI_neg {c : Nat} (h : c < 3) : cI c < 0 ↔ c = 0 := by
  have e : ∀ c, c < 3 → (cI c < 0 ↔ c = 0) := by decide
  exact e c h
theorem cI_m1 {c : Nat} (h : c < 3) : cI c = -1 ↔ c = 0 := by
  have e : ∀ c, c < 3 → (cI c = -1 ↔ c = 0) := by decide
  exact e c h
/-- node j of both sides -/
def relN (be : Nat) (nf kf lf f : Nat → Int32) (u : Nat → Nat) (j : Nat) : Prop := isU (nf j) u ∧ rowU f j u ∧ okU be u ∧ kf j = f (48 + j) ∧ ∀ k, k < 8 → (hasB (lf j) k ↔ hasB (f (56 + j)) k)
def relA (be : Nat) (nf kf lf f : Nat → Int32) (s : Nat → Nat → Nat) : Prop := ∀ j, j < 8 → relN be nf kf lf f (s j) j
theorem say_eq {kd : Int32} {b a : Nat} (hb : b < 3) (ha : a < 3) : sayF kd (cI b) (cI a) = sayM kd (cI b) (cI a) := by
  unfold sayF sayM
  by_cases k0 : kd = nI 0
  · rw [if_pos k0, if_pos (show kd = 0 from k0)]
    by_cases q : b = 0
    · rw [if_pos ((cI_m1 hb).mpr q), if_pos ((cI_neg hb).mpr q)]
    · rw [if_neg (fun z => q ((cI_m1 hb).mp z)), if_neg (fun z => q ((cI_neg hb).mp z))]
  · rw [if_neg k0, if_neg (show ¬ kd = 0 from k0)]
/-- the model's row behind the loop over those below b -/
def givM (f : Nat → Int32) (S : Int32) (a b j : Nat) : Int32 := if j < b ∧ hasB S j ∧ hasB (f (56 + a)) j ∧ f (48 + j) = 0 ∧ f (0 + j) < 0 then f (0 + a) else f j
theorem askL_row {f : Nat → Int32} {S : Int32} {a : Nat} (ha : a < 8) (hna : ¬ f (0 + a) < 0) : ∀ b, b ≤ 8 → ∀ j, (askL f S a b).1 j = if j < 8 then givM f S a b j else f j := by
  intro b
  induction b with
  | zero =>
    intro _ j
    show f j = _
    split
    · unfold givM; rw [if_neg (fun q => absurd q.1 (Nat.not_lt_zero _))]
    · rfl
  | succ b ih =>
    intro hb j
    have hg := ih (by omega)
    have h56 : (askL f S a b).1 (56 + a) = f (56 + a) := by rw [hg, if_neg (by omega)]
    have h48 : (askL f S a b).1 (48 + b) = f (48 + b) := by rw [hg, if_neg (by omega)]
    have h0b : (askL f S a b).1 (0 + b) = f (0 + b) := by
      rw [hg, if_pos (by omega)]
      unfold givM
      rw [if_neg (fun q => by omega)]
    have h0a : (askL f S a b).1 (0 + a) = f (0 + a) := by
      rw [hg, if_pos (by omega)]
      unfold givM
      by_cases q : 0 + a < b ∧ hasB S (0 + a) ∧ hasB (f (56 + a)) (0 + a) ∧ f (48 + (0 + a)) = 0 ∧ f (0 + (0 + a)) < 0
      · rw [if_pos q]
      · rw [if_neg q]
    show (if hasB S b then _ else askL f S a b).1 j = _
    by_cases hS : hasB S b
    · rw [if_pos hS]
      show sayG (askL f S a b).1 a b j = _
      unfold sayG
      rw [h56, h48, h0b, h0a]
      by_cases c : hasB (f (56 + a)) b ∧ f (48 + b) = 0 ∧ f (0 + b) < 0
      · rw [if_pos c]
        unfold upd
        by_cases e : j = 0 + b
        · rw [if_pos e, if_pos (by omega)]
          unfold givM
          have e2 : j = b := by omega
          subst e2
          rw [if_pos ⟨by omega, hS, c.1, c.2.1, c.2.2⟩]
        · rw [if_neg e, hg]
          by_cases j8 : j < 8
          · rw [if_pos j8, if_pos j8]
            unfold givM
            have : (j < b ↔ j < b + 1) := by omega
            exact ite_iff ⟨fun q => ⟨this.mp q.1, q.2⟩, fun q => ⟨this.mpr q.1, q.2⟩⟩ _ _
          · rw [if_neg j8, if_neg j8]
      · rw [if_neg c, hg]
        by_cases j8 : j < 8
        · rw [if_pos j8, if_pos j8]
          unfold givM
          have : (j < b ∧ hasB S j ∧ hasB (f (56 + a)) j ∧ f (48 + j) = 0 ∧ f (0 + j) < 0) ↔ (j < b + 1 ∧ hasB S j ∧ hasB (f (56 + a)) j ∧ f (48 + j) = 0 ∧ f (0 + j) < 0) := by
            constructor
            · rintro ⟨q1, q2⟩; exact ⟨by omega, q2⟩
            · rintro ⟨q1, q2⟩
              refine ⟨?_, q2⟩
              rcases Nat.lt_or_ge j b with w | w
              · exact w
              · obtain rfl : j = b := by omega
                exact absurd q2.2 c
          exact ite_iff this _ _
        · rw [if_neg j8, if_neg j8]
    · rw [if_neg hS, hg]
      by_cases j8 : j < 8
      · rw [if_pos j8, if_pos j8]
        unfold givM
        have : (j < b ∧ hasB S j ∧ hasB (f (56 + a)) j ∧ f (48 + j) = 0 ∧ f (0 + j) < 0) ↔ (j < b + 1 ∧ hasB S j ∧ hasB (f (56 + a)) j ∧ f (48 + j) = 0 ∧ f (0 + j) < 0) := by
          constructor
          · rintro ⟨q1, q2⟩; exact ⟨by omega, q2⟩
          · rintro ⟨q1, q2⟩
            refine ⟨?_, q2⟩
            rcases Nat.lt_or_ge j b with w | w
            · exact w
            · obtain rfl : j = b := by omega
              exact absurd q2.1 hS
        exact ite_iff this _ _
      · rw [if_neg j8, if_neg j8]
theorem askL_say {f : Nat → Int32} {S : Int32} {a b : Nat} (ha : a < 8) (hna : ¬ f (0 + a) < 0) (hb : b < 8) : sayR (askL f S a b).1 a b = sayR f a b := by
  have hg := askL_row (S := S) ha hna b (by omega)
  have h56 : (askL f S a b).1 (56 + a) = f (56 + a) := by rw [hg, if_neg (by omega)]
  have h48 : (askL f S a b).1 (48 + b) = f (48 + b) := by rw [hg, if_neg (by omega)]
  have h0b : (askL f S a b).1 (0 + b) = f (0 + b) := by
    rw [hg, if_pos (by omega)]
    unfold givM
    rw [if_neg (fun q => by omega)]
  have h0a : (askL f S a b).1 (0 + a) = f (0 + a) := by
    rw [hg, if_pos (by omega)]
    unfold givM
    by_cases q : 0 + a < b ∧ hasB S (0 + a) ∧ hasB (f (56 + a)) (0 + a) ∧ f (48 + (0 + a)) = 0 ∧ f (0 + (0 + a)) < 0
    · rw [if_pos q]
    · rw [if_neg q]
  unfold sayR
  rw [h56, h48, h0b, h0a]
/-- how many said v, by the bits of those who did -/
theorem askL_cnt {f : Nat → Int32} {S T0 T1 : Int32} {a n : Nat} (ha : a < 8) (hna : ¬ f (0 + a) < 0) (hn : n ≤ 8) (h0 : ∀ k, k < 16 → (hasB T0 k ↔ k < n ∧ hasB S k ∧ sayR f a k = nI 0)) (h1 : ∀ k, k < 16 → (hasB T1 k ↔ k < n ∧ hasB S k ∧ sayR f a k = nI 1)) : ∀ b, b ≤ n → (askL f S a b).2.1 + cntL T0 (16 - b) = cntL T0 16 ∧ (askL f S a b).2.2 + cntL T1 (16 - b) = cntL T1 16 := by
  intro b
  induction b with
  | zero => intro _; exact ⟨Nat.zero_add _, Nat.zero_add _⟩
  | succ b ih =>
    intro hb
    obtain ⟨i0, i1⟩ := ih (by omega)
    have hs := askL_say (S := S) (b := b) ha hna (by omega)
    have step : ∀ (T v : Int32) (z : Nat), (∀ k, k < 16 → (hasB T k ↔ k < n ∧ hasB S k ∧ sayR f a k = v)) → hasB S b → z + cntL T (16 - b) = cntL T 16 → z + (if sayR (askL f S a b).1 a b = v then 1 else 0) + cntL T (16 - (b + 1)) = cntL T 16 := fun T v z hT hS e => by
      rw [hs]
      by_cases q : sayR f a b = v
      · rw [if_pos q]
        rw [cnt_yes (by omega) ((hT b (by omega)).mpr ⟨by omega, hS, q⟩)] at e
        omega
      · rw [if_neg q]
        rw [cnt_no (by omega) (fun w => q ((hT b (by omega)).mp w).2.2)] at e
        omega
    have stay : ∀ (T v : Int32) (z : Nat), (∀ k, k < 16 → (hasB T k ↔ k < n ∧ hasB S k ∧ sayR f a k = v)) → ¬ hasB S b → z + cntL T (16 - b) = cntL T 16 → z + cntL T (16 - (b + 1)) = cntL T 16 := fun T v z hT hS e => by
      rw [cnt_no (by omega) (fun w => hS ((hT b (by omega)).mp w).2.1)] at e
      exact e
    show (if hasB S b then _ else askL f S a b).2.1 + _ = _ ∧ (if hasB S b then _ else askL f S a b).2.2 + _ = _
    by_cases hS : hasB S b
    · rw [if_pos hS]
      exact ⟨step T0 _ _ h0 hS i0, step T1 _ _ h1 hS i1⟩
    · rw [if_neg hS]
      exact ⟨stay T0 _ _ h0 hS i0, stay T1 _ _ h1 hS i1⟩
theorem cnt_hi {T : Int32} {n : Nat} (h : ∀ k, k < 16 → hasB T k → k < n) : ∀ d, d ≤ 16 - n → cntL T d = 0 := by
  intro d
  induction d with
  | zero => intro _; rfl
  | succ d ih =>
    intro hd
    show (if hasB T (15 - d) then 1 else 0) + cntL T d = 0
    rw [if_neg (fun q => by have := h (15 - d) (by omega) q; omega), ih (by omega)]
theorem cnt_two {T0 T1 S : Int32} (h0 : ∀ k, k < 16 → hasB T0 k → hasB S k) (h1 : ∀ k, k < 16 → hasB T1 k → hasB S k) (hd : ∀ k, k < 16 → hasB T0 k → ¬ hasB T1 k) : ∀ d, d ≤ 16 → cntL T0 d + cntL T1 d ≤ cntL S d := by
  intro d
  induction d with
  | zero => intro _; exact Nat.le_refl _
  | succ d ih =>
    intro hd2
    have i := ih (by omega)
    show (if hasB T0 (15 - d) then 1 else 0) + cntL T0 d + ((if hasB T1 (15 - d) then 1 else 0) + cntL T1 d) ≤ (if hasB S (15 - d) then 1 else 0) + cntL S d
    by_cases q0 : hasB T0 (15 - d)
    · rw [if_pos q0, if_neg (hd _ (by omega) q0), if_pos (h0 _ (by omega) q0)]; omega
    · rw [if_neg q0]
      by_cases q1 : hasB T1 (15 - d)
      · rw [if_pos q1, if_pos (h1 _ (by omega) q1)]; omega
      · rw [if_neg q1]; split <;> omega
/-- bits below 8 alone: the number is below 256 -/
theorem low8 {x : Int32} (h : ∀ k, 8 ≤ k → k < 32 → ¬ hasB x k) : ∃ v, v < 256 ∧ x = nI v := by
  refine ⟨x.toBitVec.toNat % 2 ^ 8, Nat.mod_lt _ (by decide), ?_⟩
  apply hasB_ext
  intro k hk
  rw [hasB_iff hk, hasB_iff hk, nI_bit (Nat.lt_of_lt_of_le (Nat.mod_lt _ (by decide)) (by decide)), Nat.testBit_mod_two_pow]
  rcases Nat.lt_or_ge k 8 with q | q
  · rw [decide_eq_true q, Bool.true_and]; rfl
  · rw [decide_eq_false (by omega), Bool.false_and]
    have := h k q hk
    rw [hasB_iff hk] at this
    exact iff_of_false this (by decide)
theorem bc_cnt {x : Int32} (h : ∀ k, 8 ≤ k → k < 32 → ¬ hasB x k) : bcF x = nI (cntL x 16) := by
  obtain ⟨v, hv, rfl⟩ := low8 h
  have e : ∀ v, v < 256 → bcF (nI v) = nI (cntL (nI v) 16) := by decide +kernel
  exact e v hv
theorem win_eq {al k z o : Nat} (hz : z ≤ 16) (ho : o ≤ 16) (hal : al ≤ 8) (hs : z + o ≤ k) (h2 : k < 2 * al) : winF al (nI o) (nI z) = cI (winU al z o) := by
  unfold winF winU
  by_cases q : o < al
  · rw [if_pos (nI_lt q (by omega))]
    by_cases w : z < al
    · rw [if_pos (nI_lt w (by omega)), if_pos w, if_pos q]; decide
    · rw [if_neg (fun y => w ((nI_ltI (by omega) (by omega)).mp y)), if_neg w]; decide
  · rw [if_neg (fun y => q ((nI_ltI (by omega) (by omega)).mp y)), if_pos (by omega), if_neg q]; decide
