/-! polls, as far as who has polled what is concerned -/
/-- nodes, kinds, links, and what was polled, stay -/
def lowE (f g : Nat → Int32) : Prop := ∀ j, (j < 64 ∨ (72 ≤ j ∧ j < 80)) → g j = f j
theorem lowE.refl (f : Nat → Int32) : lowE f f := fun _ _ => rfl
theorem lowE.up {f g : Nat → Int32} (h : lowE f g) {i : Nat} (hi : (64 ≤ i ∧ i < 72) ∨ 80 ≤ i) (v : Int32) : lowE f (upd g i v) := fun j hj => by
  unfold upd
  rw [if_neg (by omega)]
  exact h j hj
theorem lowE.trans {f g h : Nat → Int32} (a : lowE f g) (b : lowE g h) : lowE f h := fun j hj => (b j hj).trans (a j hj)
theorem lowE.col {f g : Nat → Int32} (h : lowE f g) (hs : colP f) : colP g := fun a ha => by rw [h a (by omega)]; exact hs a ha
/-- what of so many entries was not polled -/
def leftF (en : Nat) (x : Int32) : Int32 := (((nI 1) <<< ((nI en) &&& 31)) - (nI 1)) &&& (x ^^^ -1)
theorem left_bit {en k : Nat} {x : Int32} (hen : en ≤ 16) (hk : k < 32) : hasB (leftF en x) k ↔ k < en ∧ ¬ hasB x k := by
  unfold leftF
  rw [hasB_and hk, hasB_msk hen hk, hasB_not hk]
theorem left_hi {en : Nat} {x : Int32} (hen : en ≤ 16) : ∀ k, 16 ≤ k → k < 32 → ¬ hasB (leftF en x) k := fun k h1 h2 q => by
  have := ((left_bit hen h2).mp q).1
  omega
theorem low16 {x : Int32} (h : ∀ k, 16 ≤ k → k < 32 → ¬ hasB x k) : ∃ v, v < 65536 ∧ x = nI v := by
  refine ⟨x.toBitVec.toNat % 2 ^ 16, Nat.mod_lt _ (by decide), ?_⟩
  apply hasB_ext
  intro k hk
  rw [hasB_iff hk, hasB_iff hk, nI_bit (Nat.lt_of_lt_of_le (Nat.mod_lt _ (by decide)) (by decide)), Nat.testBit_mod_two_pow]
  rcases Nat.lt_or_ge k 16 with q | q
  · rw [decide_eq_true q, Bool.true_and]; rfl
  · rw [decide_eq_false (by omega), Bool.false_and]
    have := h k q hk
    rw [hasB_iff hk] at this
    exact iff_of_false this (by decide)
/-- Integer.bitCount in numbers -/
def bcN (v : Nat) : Nat :=
  let a := v - (v >>> 1 &&& 1431655765)
  let b := (a &&& 858993459) + (a >>> 2 &&& 858993459)
  let c := (b + b >>> 4) &&& 252645135
  let d := c + c >>> 8
  (d + d >>> 16) &&& 63
theorem nI_and {a b : Nat} (ha : a < 2 ^ 32) (hb : b < 2 ^ 32) : nI a &&& nI b = nI (a &&& b) := by
  have hab : a &&& b < 2 ^ 32 := Nat.lt_of_le_of_lt Nat.and_le_left ha
  apply Int32.toBitVec_inj.mp
  apply BitVec.eq_of_getLsbD_eq
  intro i hi
  rw [Int32.toBitVec_and, BitVec.getLsbD_and, nI_bit ha, nI_bit hb, nI_bit hab, Nat.testBit_and]
theorem nI_ushr {a s : Nat} (ha : a < 2 ^ 32) (hs : s < 32) : ((nI a).toUInt32 >>> ((nI s).toUInt32 &&& Int32.toUInt32 31)).toInt32 = nI (a >>> s) := by
  have hb : a >>> s < 2 ^ 32 := by rw [Nat.shiftRight_eq_div_pow]; exact Nat.lt_of_le_of_lt (Nat.div_le_self _ _) ha
  apply Int32.toBitVec_inj.mp
  apply BitVec.eq_of_getLsbD_eq
  intro i hi
  rw [ushr_bit _ hs, nI_bit ha, nI_bit hb, Nat.testBit_shiftRight]
theorem bc_nat {v : Nat} (hv : v < 65536) : bcF (nI v) = nI (bcN v) := by
  have e1 : v >>> 1 &&& 1431655765 ≤ v := Nat.le_trans Nat.and_le_left (by rw [Nat.shiftRight_eq_div_pow]; exact Nat.div_le_self _ _)
  obtain ⟨a, ea⟩ : ∃ a, a = v - (v >>> 1 &&& 1431655765) := ⟨_, rfl⟩
  have ha : a ≤ v := by omega
  obtain ⟨b, eb⟩ : ∃ b, b = (a &&& 858993459) + (a >>> 2 &&& 858993459) := ⟨_, rfl⟩
  have hb : b ≤ 858993459 + 858993459 := by rw [eb]; exact Nat.add_le_add Nat.and_le_right Nat.and_le_right
  have hb4 : b >>> 4 ≤ b := by rw [Nat.shiftRight_eq_div_pow]; exact Nat.div_le_self _ _
  have hb5 : b >>> 4 ≤ 107374182 + 1 := by rw [Nat.shiftRight_eq_div_pow]; omega
  obtain ⟨c, ec⟩ : ∃ c, c = (b + b >>> 4) &&& 252645135 := ⟨_, rfl⟩
  have hc : c ≤ 252645135 := by rw [ec]; exact Nat.and_le_right
  have hc8 : c >>> 8 ≤ c := by rw [Nat.shiftRight_eq_div_pow]; exact Nat.div_le_self _ _
  obtain ⟨d, ed⟩ : ∃ d, d = c + c >>> 8 := ⟨_, rfl⟩
  have hd6 : d >>> 16 ≤ d := by rw [Nat.shiftRight_eq_div_pow]; exact Nat.div_le_self _ _
  have r : bcN v = (d + d >>> 16) &&& 63 := by rw [ed, ec, eb, ea]; rfl
  unfold bcF
  simp only []
  rw [nI_ushr (by omega) (by decide), nI_and (by rw [Nat.shiftRight_eq_div_pow]; omega) (by decide), pk_sub e1, ← ea]
  rw [nI_and (by omega) (by decide), nI_ushr (by omega) (by decide), nI_and (by rw [Nat.shiftRight_eq_div_pow]; omega) (by decide), nI_add, ← eb]
  rw [nI_ushr (by omega) (by decide), nI_add, nI_and (by omega) (by decide), ← ec]
  rw [nI_ushr (by omega) (by decide), nI_add, ← ed]
  rw [nI_ushr (by omega) (by decide), nI_add, nI_and (by omega) (by decide), r]
def cntR (v : Nat) : Nat → Nat | 0 => 0 | d + 1 => v / 2 ^ (15 - d) % 2 + cntR v d
def cntA (v : Nat) : Nat := v / 2 ^ 0 % 2 + (v / 2 ^ 1 % 2 + (v / 2 ^ 2 % 2 + (v / 2 ^ 3 % 2 + (v / 2 ^ 4 % 2 + (v / 2 ^ 5 % 2 + (v / 2 ^ 6 % 2 + (v / 2 ^ 7 % 2 + (v / 2 ^ 8 % 2 + (v / 2 ^ 9 % 2 + (v / 2 ^ 10 % 2 + (v / 2 ^ 11 % 2 + (v / 2 ^ 12 % 2 + (v / 2 ^ 13 % 2 + (v / 2 ^ 14 % 2 + (v / 2 ^ 15 % 2 + (0))))))))))))))))
theorem cnt_nat {v : Nat} (hv : v < 65536) : ∀ d, d ≤ 16 → cntL (nI v) d = cntR v d := by
  intro d
  induction d with
  | zero => intro _; rfl
  | succ d ih =>
    intro hd
    show (if hasB (nI v) (15 - d) then 1 else 0) + cntL (nI v) d = v / 2 ^ (15 - d) % 2 + cntR v d
    rw [ih (by omega)]
    congr 1
    have := hasB_iff (x := nI v) (k := 15 - d) (by omega)
    rw [nI_bit (by omega), Nat.testBit_eq_decide_div_mod_eq, decide_eq_true_eq] at this
    by_cases q : v / 2 ^ (15 - d) % 2 = 1
    · rw [q, if_pos (this.mpr q)]
    · rw [if_neg (fun z => q (this.mp z))]; omega
theorem bc_n0 : ∀ a, a < 32 → ∀ b, b < 256 → Nat.beq (bcN (256 * (32 * 0 + a) + b)) (cntA (256 * (32 * 0 + a) + b)) = true := by decide +kernel
theorem bc_n1 : ∀ a, a < 32 → ∀ b, b < 256 → Nat.beq (bcN (256 * (32 * 1 + a) + b)) (cntA (256 * (32 * 1 + a) + b)) = true := by decide +kernel
theorem bc_n2 : ∀ a, a < 32 → ∀ b, b < 256 → Nat.beq (bcN (256 * (32 * 2 + a) + b)) (cntA (256 * (32 * 2 + a) + b)) = true := by decide +kernel
theorem bc_n3 : ∀ a, a < 32 → ∀ b, b < 256 → Nat.beq (bcN (256 * (32 * 3 + a) + b)) (cntA (256 * (32 * 3 + a) + b)) = true := by decide +kernel
theorem bc_n4 : ∀ a, a < 32 → ∀ b, b < 256 → Nat.beq (bcN (256 * (32 * 4 + a) + b)) (cntA (256 * (32 * 4 + a) + b)) = true := by decide +kernel
theorem bc_n5 : ∀ a, a < 32 → ∀ b, b < 256 → Nat.beq (bcN (256 * (32 * 5 + a) + b)) (cntA (256 * (32 * 5 + a) + b)) = true := by decide +kernel
theorem bc_n6 : ∀ a, a < 32 → ∀ b, b < 256 → Nat.beq (bcN (256 * (32 * 6 + a) + b)) (cntA (256 * (32 * 6 + a) + b)) = true := by decide +kernel
theorem bc_n7 : ∀ a, a < 32 → ∀ b, b < 256 → Nat.beq (bcN (256 * (32 * 7 + a) + b)) (cntA (256 * (32 * 7 + a) + b)) = true := by decide +kernel
theorem bc_16n (a : Nat) (ha : a < 256) (b : Nat) (hb : b < 256) : bcN (256 * a + b) = cntA (256 * a + b) := by
  obtain ⟨q, r, hq, hr, rfl⟩ : ∃ q r, q < 8 ∧ r < 32 ∧ a = 32 * q + r := ⟨a / 32, a % 32, by omega, by omega, by omega⟩
  apply Nat.eq_of_beq_eq_true
  rcases (show q = 0 ∨ q = 1 ∨ q = 2 ∨ q = 3 ∨ q = 4 ∨ q = 5 ∨ q = 6 ∨ q = 7 by omega) with rfl | rfl | rfl | rfl | rfl | rfl | rfl | rfl
  · exact bc_n0 r hr b hb
  · exact bc_n1 r hr b hb
  · exact bc_n2 r hr b hb
  · exact bc_n3 r hr b hb
  · exact bc_n4 r hr b hb
  · exact bc_n5 r hr b hb
  · exact bc_n6 r hr b hb
  · exact bc_n7 r hr b hb
theorem bc_16a (a : Nat) (ha : a < 256) (b : Nat) (hb : b < 256) : bcF (nI (256 * a + b)) = nI (cntL (nI (256 * a + b)) 16) := by
  rw [bc_nat (by omega), cnt_nat (by omega) 16 (by decide), bc_16n a ha b hb]
  rfl
theorem bc_cnt16 {x : Int32} (h : ∀ k, 16 ≤ k → k < 32 → ¬ hasB x k) : bcF x = nI (cntL x 16) := by
  obtain ⟨v, hv, rfl⟩ := low16 h
  have := bc_16a (v / 256) (by omega) (v % 256) (by omega)
  rw [show 256 * (v / 256) + v % 256 = v by omega] at this
  exact this
theorem polU_col {f : Nat → Int32} (hs : colP f) {a : Nat} (v : Int32) : colP (upd f (72 + a) v) := colP_hi hs v (by omega)
/-- a poll that can be, of the model -/
def mcpP (n k : Nat) (f : Nat → Int32) (b : Int32) (a e : Nat) : Prop := msmP n k a b ∧ f (48 + a) = 0 ∧ ¬ hasB (f (72 + a)) e
def mcpA (n k en : Nat) (f : Nat → Int32) (x y b : Int32) : Prop := okN n x ∧ okN en y ∧ ∀ a e, a < n → e < en → x = nI a → y = nI e → mcpP n k f b a e
/-- one of the polls that are drawn, of the model -/
def stepPM (n k en : Nat) (s t : Int32 × (Nat → Int32)) : Prop := ∃ a, a < n ∧ nI a = drV (nxD s.1) (nI n) ∧ ((¬ (s.2 (48 + a) = 0 ∧ ¬ leftF en (s.2 (72 + a)) = 0) ∧ t = (nxD s.1, s.2)) ∨ (s.2 (48 + a) = 0 ∧ ¬ leftF en (s.2 (72 + a)) = 0 ∧ ∃ (e : Nat) (l S : Int32), e < en ∧ e = nthB (leftF en (s.2 (72 + a))) 31 (drV (nxD (nxD s.1)) (nI (cntL (leftF en (s.2 (72 + a))) 16))) ∧ dsI n (nxD (nxD s.1), lefI n a, nI 0) k t.1 l S ∧ lowE (upd s.2 (72 + a) (s.2 (72 + a) ||| bitI e)) t.2))
def polsM (n k en : Nat) : Nat → Int32 × (Nat → Int32) → Int32 × (Nat → Int32) → Prop
  | 0, s, t => t = s
  | o + 1, s, t => ∃ m, polsM n k en o s m ∧ stepPM n k en m t
/-- the same of the class -/
def ccpP (n k : Nat) (kf pof : Nat → Int32) (x b : Int32) (a e : Nat) : Prop := smpP n k x b ∧ kf a = 0 ∧ ¬ hasB (pof a) e
def ccpA (n k en : Nat) (kf pof : Nat → Int32) (x y b : Int32) : Prop := okN n x ∧ okN en y ∧ ∀ a e, a < n → e < en → x = nI a → y = nI e → ccpP n k kf pof x b a e
def stepPC (n k en : Nat) (kf : Nat → Int32) (s t : Int32 × (Nat → Int32)) : Prop := ∃ a, a < n ∧ nI a = drV (nxD s.1) (nI n) ∧ ((¬ (kf a = 0 ∧ ¬ leftF en (s.2 a) = 0) ∧ t = (nxD s.1, s.2)) ∨ (kf a = 0 ∧ ¬ leftF en (s.2 a) = 0 ∧ ∃ (e : Nat) (l S : Int32), e < en ∧ e = nthB (leftF en (s.2 a)) 31 (drV (nxD (nxD s.1)) (nI (cntL (leftF en (s.2 a)) 16))) ∧ dsI n (nxD (nxD s.1), lefI n a, nI 0) k t.1 l S ∧ ∀ j, j < 8 → t.2 j = upd s.2 a (s.2 a ||| bitI e) j))
def polsC (n k en : Nat) (kf : Nat → Int32) : Nat → Int32 × (Nat → Int32) → Int32 × (Nat → Int32) → Prop
  | 0, s, t => t = s
  | o + 1, s, t => ∃ m, polsC n k en kf o s m ∧ stepPC n k en kf m t
