/-! queries made, together -/
def qsm (f : Nat → Int32) : Nat → Int32
  | 0 => nI 0
  | o + 1 => qsm f o + f o
theorem qsm_lt {f : Nat → Int32} {a : Nat} {x : Int32} : ∀ o, o ≤ a → qsm (upd f a x) o = qsm f o
  | 0, _ => rfl
  | o + 1, h => by
    show qsm (upd f a x) o + upd f a x o = qsm f o + f o
    rw [qsm_lt o (by omega), upN _ _ (by omega)]
theorem qsm_upd {f : Nat → Int32} {a : Nat} : ∀ o, a < o → qsm (upd f a (f a + nI 1)) o = qsm f o + nI 1
  | 0, h => absurd h (Nat.not_lt_zero _)
  | o + 1, h => by
    show qsm (upd f a (f a + nI 1)) o + upd f a (f a + nI 1) o = qsm f o + f o + nI 1
    by_cases q : o = a
    · subst q
      rw [upA, qsm_lt o (Nat.le_refl _), Int32.add_assoc]
    · rw [upN _ _ q, qsm_upd o (by omega), Int32.add_assoc, Int32.add_assoc, Int32.add_comm (nI 1)]
theorem qsm_0 : ∀ o, qsm (fun _ => nI 0) o = nI 0
  | 0 => rfl
  | o + 1 => by
    show qsm (fun _ => nI 0) o + nI 0 = nI 0
    rw [qsm_0 o]
    decide
theorem qsm_eq {f g : Nat → Int32} (h : ∀ j, j < 8 → f j = g j) : ∀ o, o ≤ 8 → qsm f o = qsm g o
  | 0, _ => rfl
  | o + 1, ho => by
    show qsm f o + f o = qsm g o + g o
    rw [qsm_eq h o (by omega), h o (by omega)]
/-! what is counted, on both sides -/
theorem bits_no0 {P : Nat → Prop} {b : Int32} {o : Nat} (h : ∀ k, k < 32 → (hasB b k ↔ k < o ∧ P k)) (c : ¬ P o) : ∀ k, k < 32 → (hasB (b ||| nI 0) k ↔ k < o + 1 ∧ P k) := fun k hk => by
  have h1 := bits_no h c k hk
  rw [hasB_or hk]
  exact ⟨fun q => q.elim h1.mp (fun z => absurd z (hasB_0 hk)), fun q => Or.inl (h1.mpr q)⟩
theorem bits_end {P : Nat → Prop} {b : Int32} {o n : Nat} (h : ∀ k, k < 32 → (hasB b k ↔ k < o ∧ P k)) (e : o = n) : ∀ k, k < 32 → (hasB b k ↔ k < n ∧ P k) := e ▸ h
theorem opn_t {x : Int32} (h : ¬ (if x = -1 then nI 1 else nI 0) = 0) : x = -1 := by
  apply Decidable.byContradiction
  intro q
  rw [if_neg q] at h
  exact h rfl
theorem opn_f {x : Int32} (h : (if x = -1 then nI 1 else nI 0) = 0) : ¬ x = -1 := fun q => by
  rw [if_pos q] at h
  exact absurd h (by decide)
theorem dec_t {x : Int32} (h : ¬ (if x &&& dcM = 0 then nI 0 else nI 1) = 0) : ¬ x &&& dcM = 0 := fun q => by
  rw [if_pos q] at h
  exact h rfl
theorem dec_f {x : Int32} (h : (if x &&& dcM = 0 then nI 0 else nI 1) = 0) : x &&& dcM = 0 := by
  apply Decidable.byContradiction
  intro q
  rw [if_neg q] at h
  exact absurd h (by decide)
theorem cntGe1 {x : Int32} : ∀ d, d ≤ 16 → ∀ i, 16 - d ≤ i → i < 16 → hasB x i → 1 ≤ cntL x d := by
  intro d
  induction d with
  | zero => intro _ i h1 h2; omega
  | succ d ih =>
    intro hd i h1 h2 hb
    show 1 ≤ (if hasB x (15 - d) then 1 else 0) + cntL x d
    by_cases q : i = 15 - d
    · rw [← q, if_pos hb]; omega
    · have := ih (by omega) i (by omega) h2 hb
      omega
theorem cntEx {x : Int32} : ∀ d, d ≤ 16 → 1 ≤ cntL x d → ∃ i, 16 - d ≤ i ∧ i < 16 ∧ hasB x i := by
  intro d
  induction d with
  | zero => intro _ h; exact absurd h (by show ¬ 1 ≤ 0; omega)
  | succ d ih =>
    intro hd h
    replace h : 1 ≤ (if hasB x (15 - d) then 1 else 0) + cntL x d := h
    by_cases q : hasB x (15 - d)
    · exact ⟨15 - d, by omega, by omega, q⟩
    · rw [if_neg q] at h
      obtain ⟨i, a, b, c⟩ := ih (by omega) (by omega)
      exact ⟨i, by omega, b, c⟩
theorem cntTwo {x : Int32} : ∀ d, d ≤ 16 → (2 ≤ cntL x d ↔ ∃ i j, 16 - d ≤ i ∧ i < j ∧ j < 16 ∧ hasB x i ∧ hasB x j) := by
  intro d
  induction d with
  | zero =>
    intro _
    constructor
    · intro h; exact absurd h (by show ¬ 2 ≤ 0; omega)
    · rintro ⟨i, j, h1, h2, h3, _⟩; omega
  | succ d ih =>
    intro hd
    have e : cntL x (d + 1) = (if hasB x (15 - d) then 1 else 0) + cntL x d := rfl
    rw [e]
    constructor
    · intro h
      by_cases q : hasB x (15 - d)
      · rw [if_pos q] at h
        obtain ⟨j, a, b, c⟩ := cntEx (x := x) d (by omega) (by omega)
        exact ⟨15 - d, j, by omega, by omega, b, q, c⟩
      · rw [if_neg q] at h
        obtain ⟨i, j, a, b, c, h1, h2⟩ := (ih (by omega)).mp (by omega)
        exact ⟨i, j, by omega, b, c, h1, h2⟩
    · rintro ⟨i, j, a, b, c, h1, h2⟩
      by_cases q : i = 15 - d
      · have := cntGe1 (x := x) d (by omega) j (by omega) c h2
        rw [← q, if_pos h1]
        omega
      · have := (ih (by omega)).mpr ⟨i, j, by omega, b, c, h1, h2⟩
        omega
/-- sums -/
def sm (g : Nat → Nat) : Nat → Nat
  | 0 => 0
  | o + 1 => sm g o + g o
theorem sm_congr {g h : Nat → Nat} : ∀ o, (∀ j, j < o → g j = h j) → sm g o = sm h o
  | 0, _ => rfl
  | o + 1, e => by
    show sm g o + g o = sm h o + h o
    rw [sm_congr o (fun j hj => e j (by omega)), e o (by omega)]
theorem sm_add (g h : Nat → Nat) : ∀ o, sm (fun j => g j + h j) o = sm g o + sm h o
  | 0 => rfl
  | o + 1 => by
    show sm (fun j => g j + h j) o + (g o + h o) = sm g o + g o + (sm h o + h o)
    rw [sm_add g h o]
    omega
theorem sm_zero {g : Nat → Nat} : ∀ o, (∀ j, j < o → g j = 0) → sm g o = 0
  | 0, _ => rfl
  | o + 1, e => by
    show sm g o + g o = 0
    rw [sm_zero o (fun j hj => e j (by omega)), e o (by omega)]
theorem sm_swap (g : Nat → Nat → Nat) (n : Nat) : ∀ m, sm (fun i => sm (g i) n) m = sm (fun j => sm (fun i => g i j) m) n
  | 0 => (sm_zero n (fun _ _ => rfl)).symm
  | m + 1 => by
    show sm (fun i => sm (g i) n) m + sm (g m) n = sm (fun j => sm (fun i => g i j) m + g m j) n
    rw [sm_swap g n m, sm_add]
theorem sm_cut (h : Nat → Nat) (a : Nat) : ∀ n, a ≤ n → sm (fun b => if b < a then h b else 0) n = sm h a
  | 0, ha => by
    obtain rfl : a = 0 := by omega
    rfl
  | n + 1, ha => by
    show sm (fun b => if b < a then h b else 0) n + (if n < a then h n else 0) = sm h a
    by_cases q : n < a
    · obtain rfl : a = n + 1 := by omega
      rw [if_pos q]
      show _ = sm h n + h n
      rw [sm_congr n (fun j hj => (if_pos (show j < n + 1 by omega)))]
    · rw [if_neg q, sm_cut h a n (by omega), Nat.add_zero]
def unl (x : Int32) (j : Nat) : Nat := if hasB x j then 0 else 1
def upC (lf : Nat → Int32) (i n : Nat) : Nat := sm (fun j => if i < j then unl (lf i) j else 0) n
def uprC (lf : Nat → Int32) (n o : Nat) : Nat := sm (fun i => upC lf i n) o
def apM (f : Nat → Int32) (o : Nat) : Nat := sm (fun a => sm (fun b => unl (f (56 + a)) b) a) o
theorem upC_0 (lf : Nat → Int32) (i : Nat) : upC lf i (i + 1) = 0 := sm_zero _ (fun j hj => if_neg (by omega))
theorem upC_s {lf : Nat → Int32} {i j : Nat} (h : i < j) : upC lf i (j + 1) = upC lf i j + unl (lf i) j := by
  show upC lf i j + (if i < j then unl (lf i) j else 0) = _
  rw [if_pos h]
theorem unl_t {x : Int32} {j : Nat} (h : hasB x j) : unl x j = 0 := if_pos h
theorem unl_f {x : Int32} {j : Nat} (h : ¬ hasB x j) : unl x j = 1 := if_neg h
theorem unl_iff {x y : Int32} {i j : Nat} (h : hasB x i ↔ hasB y j) : unl x i = unl y j := by
  unfold unl
  by_cases q : hasB x i
  · rw [if_pos q, if_pos (h.mp q)]
  · rw [if_neg q, if_neg (fun z => q (h.mpr z))]
theorem apart_eq {lf f : Nat → Int32} {n : Nat} (hn : n ≤ 8) (h : ∀ i j, i < 8 → j < 8 → (hasB (lf i) j ↔ hasB (f (56 + j)) i)) : uprC lf n n = apM f n := by
  unfold uprC apM
  have e : sm (fun i => upC lf i n) n = sm (fun i => sm (fun j => if i < j then unl (lf i) j else 0) n) n := rfl
  rw [e, sm_swap (fun i j => if i < j then unl (lf i) j else 0) n n]
  refine sm_congr n (fun j hj => ?_)
  show sm (fun i => if i < j then unl (lf i) j else 0) n = sm (fun b => unl (f (56 + j)) b) j
  rw [sm_cut (fun i => unl (lf i) j) j n (by omega)]
  exact sm_congr j (fun i hi => unl_iff (h i j (by omega) (by omega)))
/-- split sets -/
def sptC (n : Nat) (kf : Nat → Int32) (sef : Nat → Nat → Int32) (t : Nat) : Prop := ∃ i, i < n ∧ ∃ j, j < n ∧ kf i = 0 ∧ kf j = 0 ∧ ¬ sef i (t * 4 + 3) = -1 ∧ ¬ sef j (t * 4 + 3) = -1 ∧ ¬ sef i (t * 4 + 3) = sef j (t * 4 + 3)
def accQ (sef : Nat → Nat → Int32) : Prop := ∀ v, v < 8 → ∀ t, t < 8 → sef v (t * 4 + 3) = -1 ∨ ∃ e, e < 16 ∧ sef v (t * 4 + 3) = nI e
def sprC (kf : Nat → Int32) (sef : Nat → Nat → Int32) (t o : Nat) (m : Int32) : Prop := ∀ k, k < 32 → (hasB m k ↔ ∃ i, i < o ∧ kf i = 0 ∧ sef i (t * 4 + 3) = nI k)
theorem spr_0 (kf : Nat → Int32) (sef : Nat → Nat → Int32) (t : Nat) : sprC kf sef t 0 (nI 0) := fun k hk => ⟨fun q => absurd q (hasB_0 hk), fun ⟨i, hi, _⟩ => absurd hi (Nat.not_lt_zero _)⟩
theorem spr_no {kf : Nat → Int32} {sef : Nat → Nat → Int32} {t o : Nat} {m : Int32} (h : sprC kf sef t o m) (c : ¬ kf o = 0 ∨ sef o (t * 4 + 3) = -1) : sprC kf sef t (o + 1) m := fun k hk => by
  rw [h k hk]
  constructor
  · rintro ⟨i, a, b, d⟩; exact ⟨i, by omega, b, d⟩
  · rintro ⟨i, a, b, d⟩
    by_cases z : i = o
    · subst z
      rcases c with c | c
      · exact absurd b c
      · exact absurd (c.symm.trans d).symm (nI_ne_m1 (by omega))
    · exact ⟨i, by omega, b, d⟩
theorem acc_bit {b x : Int32} {k : Nat} (hx : x = -1 ∨ ∃ e, e < 16 ∧ x = nI e) (hne : ¬ x = -1) (hk : k < 32) : hasB (b ||| ((nI 1) <<< (x &&& 31))) k ↔ hasB b k ∨ x = nI k := by
  obtain ⟨e, he, rfl⟩ := hx.resolve_left hne
  rw [show ((nI 1) <<< ((nI e) &&& 31)) = bitI e from rfl, hasB_orbit (by omega) hk, nI_eq (by omega) (by omega)]
  exact ⟨fun q => q.imp id Eq.symm, fun q => q.imp id Eq.symm⟩
theorem spr_yes {kf : Nat → Int32} {sef : Nat → Nat → Int32} {t o : Nat} {m : Int32} (h : sprC kf sef t o m) (hq : accQ sef) (ho : o < 8) (ht : t < 8) (c : kf o = 0) (d : ¬ sef o (t * 4 + 3) = -1) : sprC kf sef t (o + 1) (m ||| ((nI 1) <<< ((sef o (t * 4 + 3)) &&& 31))) := fun k hk => by
  rw [acc_bit (hq o ho t ht) d hk, h k hk]
  constructor
  · rintro (⟨i, a, b, e⟩ | e)
    · exact ⟨i, by omega, b, e⟩
    · exact ⟨o, by omega, c, e⟩
  · rintro ⟨i, a, b, e⟩
    by_cases z : i = o
    · subst z; exact Or.inr e
    · exact Or.inl ⟨i, by omega, b, e⟩
theorem spr_end {n : Nat} {kf : Nat → Int32} {sef : Nat → Nat → Int32} {t : Nat} {m : Int32} (hn : n ≤ 8) (hq : accQ sef) (ht : t < 8) (h : sprC kf sef t n m) : nI 1 < bcF m ↔ sptC n kf sef t := by
  have hi : ∀ k, 16 ≤ k → k < 32 → ¬ hasB m k := fun k h1 h2 q => by
    obtain ⟨i, a, _, d⟩ := (h k h2).mp q
    rcases hq i (by omega) t ht with z | ⟨e, he, z⟩
    · exact absurd (z.symm.trans d).symm (nI_ne_m1 (by omega))
    · have := (nI_eq (by omega) (by omega)).mp (z.symm.trans d); omega
  have hc := cnt_le m 16
  rw [bc_cnt16 hi, nI_ltI (by decide) (by omega)]
  have e : 1 < cntL m 16 ↔ 2 ≤ cntL m 16 := Iff.rfl
  rw [e, cntTwo 16 (by decide)]
  constructor
  · rintro ⟨a, b, _, hab, hb, h1, h2⟩
    obtain ⟨i, i1, i2, i3⟩ := (h a (by omega)).mp h1
    obtain ⟨j, j1, j2, j3⟩ := (h b (by omega)).mp h2
    exact ⟨i, i1, j, j1, i2, j2, by rw [i3]; exact nI_ne_m1 (by omega), by rw [j3]; exact nI_ne_m1 (by omega), by rw [i3, j3]; exact fun z => by have := (nI_eq (by omega) (by omega)).mp z; omega⟩
  · rintro ⟨i, i1, j, j1, i2, j2, i3, j3, hne⟩
    obtain ⟨a, ha, ea⟩ := (hq i (by omega) t ht).resolve_left i3
    obtain ⟨b, hb, eb⟩ := (hq j (by omega) t ht).resolve_left j3
    have h1 := (h a (by omega)).mpr ⟨i, i1, i2, ea⟩
    have h2 := (h b (by omega)).mpr ⟨j, j1, j2, eb⟩
    have hab : ¬ a = b := fun z => hne (by rw [ea, eb, z])
    rcases (show a < b ∨ b < a by omega) with q | q
    · exact ⟨a, b, by omega, q, hb, h1, h2⟩
    · exact ⟨b, a, by omega, q, ha, h2, h1⟩
/-- the model's split sets: av is what a node accepts of a set -/
def spM (av : Nat → Int32) (o : Nat) : Prop := ∃ i, i < o ∧ ∃ j, j < o ∧ ¬ av i = -1 ∧ ¬ av j = -1 ∧ ¬ av i = av j
def spF (av : Nat → Int32) (o : Nat) (c : Int32) : Prop := (c = -1 ∧ ∀ v, v < o → av v = -1) ∨ (∃ v, v < o ∧ c = av v ∧ ¬ av v = -1)
theorem spF_none {av : Nat → Int32} {o : Nat} {c : Int32} (h : spF av o c) (e : av o = -1) : spF av (o + 1) c ∧ (spM av (o + 1) ↔ spM av o) := by
  refine ⟨?_, ?_, ?_⟩
  · rcases h with ⟨h1, h2⟩ | ⟨v, h1, h2⟩
    · refine Or.inl ⟨h1, fun v hv => ?_⟩
      by_cases z : v = o
      · rw [z]; exact e
      · exact h2 v (by omega)
    · exact Or.inr ⟨v, by omega, h2⟩
  · rintro ⟨i, i1, j, j1, a, b, d⟩
    have z1 : ¬ i = o := fun z => a (z ▸ e)
    have z2 : ¬ j = o := fun z => b (z ▸ e)
    exact ⟨i, by omega, j, by omega, a, b, d⟩
  · rintro ⟨i, i1, j, j1, r⟩; exact ⟨i, by omega, j, by omega, r⟩
theorem spF_first {av : Nat → Int32} {o : Nat} (h : spF av o (-1)) (e : ¬ av o = -1) : spF av (o + 1) (av o) ∧ (spM av (o + 1) ↔ spM av o) := by
  have h2 : ∀ v, v < o → av v = -1 := by
    rcases h with ⟨_, h2⟩ | ⟨v, _, h2, h3⟩
    · exact h2
    · exact absurd h2.symm h3
  refine ⟨Or.inr ⟨o, by omega, rfl, e⟩, ?_, ?_⟩
  · rintro ⟨i, i1, j, j1, a, b, d⟩
    have z1 : i = o := Decidable.byContradiction (fun z => a (h2 i (by omega)))
    have z2 : j = o := Decidable.byContradiction (fun z => b (h2 j (by omega)))
    exact absurd (by rw [z1, z2]) d
  · rintro ⟨i, i1, j, j1, r⟩; exact ⟨i, by omega, j, by omega, r⟩
theorem spF_same {av : Nat → Int32} {o : Nat} {c : Int32} (h : spF av o c) (hc : ¬ c = -1) (e : av o = c) : spF av (o + 1) c ∧ (spM av (o + 1) ↔ spM av o) := by
  obtain ⟨v, v1, v2, v3⟩ := h.resolve_left (fun q => hc q.1)
  refine ⟨Or.inr ⟨v, by omega, v2, v3⟩, ?_, ?_⟩
  · rintro ⟨i, i1, j, j1, a, b, d⟩
    by_cases z1 : i = o
    · by_cases z2 : j = o
      · exact absurd (by rw [z1, z2]) d
      · exact ⟨v, v1, j, by omega, v3, b, by rw [← v2, ← e, ← z1]; exact d⟩
    · by_cases z2 : j = o
      · exact ⟨i, by omega, v, v1, a, v3, by rw [← v2, ← e, ← z2]; exact d⟩
      · exact ⟨i, by omega, j, by omega, a, b, d⟩
  · rintro ⟨i, i1, j, j1, r⟩; exact ⟨i, by omega, j, by omega, r⟩
theorem spF_diff {av : Nat → Int32} {o : Nat} {c : Int32} (h : spF av o c) (hc : ¬ c = -1) (e : ¬ av o = -1) (d : ¬ av o = c) : spF av (o + 1) c ∧ spM av (o + 1) := by
  obtain ⟨v, v1, v2, v3⟩ := h.resolve_left (fun q => hc q.1)
  exact ⟨Or.inr ⟨v, by omega, v2, v3⟩, o, by omega, v, by omega, e, v3, by rw [← v2]; exact d⟩
/-- the widest -/
def sbS (en : Nat) (S : Int32) : Prop := ∀ k, en ≤ k → k < 32 → ¬ hasB S k
def acP (en : Nat) (anf : Nat → Int32) (S : Int32) : Prop := ∀ e, e < en → hasB S e → ∀ k, k < 32 → hasB (anf e) k → ¬ hasB S k
def wdM (en : Nat) (anf : Nat → Int32) (c : Nat) : Prop := (∃ S, sbS en S ∧ acP en anf S ∧ cntL S 16 = c) ∧ ∀ S, sbS en S → acP en anf S → cntL S 16 ≤ c
def inA (x : Int32) (fr : Nat) (S : Int32) : Prop := ∀ k, k < 32 → hasB S k → hasB x k ∧ fr ≤ k
def acC (gaf gpf : Nat → Int32) (S : Int32) : Prop := ∀ e k, e < k → k < 32 → hasB S e → hasB S k → ¬ hasB (gaf e ||| gpf e) k
def wdC (gaf gpf : Nat → Int32) (x : Int32) (fr c : Nat) : Prop := (∃ S, inA x fr S ∧ acC gaf gpf S ∧ cntL S 16 = c) ∧ ∀ S, inA x fr S → acC gaf gpf S → cntL S 16 ≤ c
section WIDE
variable {gaf gpf anf : Nat → Int32} {x : Int32} {e c c1 c2 en fr : Nat}
theorem wdC.le (h : wdC gaf gpf x fr c) : c ≤ 16 := by
  obtain ⟨⟨S, _, _, h3⟩, _⟩ := h
  rw [← h3]; exact cnt_le S 16
theorem wdC.skip (hb : ¬ hasB x e) (h : wdC gaf gpf x (e + 1) c) : wdC gaf gpf x e c := by
  have up : ∀ S, inA x (e + 1) S → inA x e S := fun S h k hk q => ⟨(h k hk q).1, by have := (h k hk q).2; omega⟩
  have dn : ∀ S, inA x e S → inA x (e + 1) S := fun S h k hk q => by
    obtain ⟨a, b⟩ := h k hk q
    refine ⟨a, ?_⟩
    by_cases z : k = e
    · subst z; exact absurd a hb
    · omega
  obtain ⟨⟨S, h1, h2, h3⟩, h4⟩ := h
  exact ⟨⟨S, up S h1, h2, h3⟩, fun S hS => h4 S (dn S hS)⟩
theorem wdC.zero (hx : sbS en x) (hf : en ≤ fr) : wdC gaf gpf x fr 0 := by
  have z : ∀ S, inA x fr S → cntL S 16 = 0 := fun S h => cnt_hi (n := 0) (fun k hk q => by
    obtain ⟨a, b⟩ := h k (by omega) q
    exact absurd a (hx k (by omega) (by omega))) 16 (by decide)
  refine ⟨⟨nI 0, fun k hk q => absurd q (hasB_0 hk), fun a k hak hk q => absurd q (hasB_0 (by omega)), ?_⟩, fun S h _ => by rw [z S h]; exact Nat.le_refl 0⟩
  exact z _ (fun k hk q => absurd q (hasB_0 hk))
theorem wdC.take (he : e < 16) (hb : hasB x e) (h1 : wdC gaf gpf ((x &&& ((bitI e) ^^^ -1)) &&& ((gaf e ||| gpf e) ^^^ -1)) (e + 1) c1) (h2 : wdC gaf gpf (x &&& ((bitI e) ^^^ -1)) (e + 1) c2) : wdC gaf gpf x e (if 1 + c1 ≤ c2 then c2 else 1 + c1) := by
  have hrest : ∀ k, k < 32 → (hasB (x &&& ((bitI e) ^^^ -1)) k ↔ hasB x k ∧ ¬ k = e) := fun k hk => by rw [hasB_and hk, hasB_m1 (by omega) hk]
  have hfree : ∀ k, k < 32 → (hasB ((x &&& ((bitI e) ^^^ -1)) &&& ((gaf e ||| gpf e) ^^^ -1)) k ↔ (hasB x k ∧ ¬ k = e) ∧ ¬ hasB (gaf e ||| gpf e) k) := fun k hk => by rw [hasB_and hk, hrest k hk, hasB_not hk]
  -- one that has e
  have mk : ∀ S, inA ((x &&& ((bitI e) ^^^ -1)) &&& ((gaf e ||| gpf e) ^^^ -1)) (e + 1) S → acC gaf gpf S → inA x e (S ||| bitI e) ∧ acC gaf gpf (S ||| bitI e) ∧ cntL (S ||| bitI e) 16 = cntL S 16 + 1 := fun S hS hA => by
    have hb2 : ∀ k, k < 32 → (hasB (S ||| bitI e) k ↔ hasB S k ∨ k = e) := fun k hk => hasB_orbit (by omega) hk
    have hne : ¬ hasB S e := fun q => by have := (hS e (by omega) q).2; omega
    refine ⟨fun k hk q => ?_, fun a k hak hk q1 q2 => ?_, ?_⟩
    · rcases (hb2 k hk).mp q with z | rfl
      · obtain ⟨w1, w2⟩ := hS k hk z
        exact ⟨((hfree k hk).mp w1).1.1, by omega⟩
      · exact ⟨hb, Nat.le_refl _⟩
    · rcases (hb2 a (by omega)).mp q1 with z1 | z1 <;> rcases (hb2 k hk).mp q2 with z2 | z2
      · exact hA a k hak hk z1 z2
      · have := (hS a (by omega) z1).2; omega
      · subst z1; exact ((hfree k hk).mp (hS k hk z2).1).2
      · omega
    · have hs : (S ||| bitI e) &&& ((bitI e) ^^^ -1) = S := by
        apply hasB_ext
        intro k hk
        rw [hasB_and hk, hb2 k hk, hasB_m1 (by omega) hk]
        exact ⟨fun ⟨q1, q2⟩ => q1.elim id (fun z => absurd z q2), fun q => ⟨Or.inl q, fun z => hne (z ▸ q)⟩⟩
      have z := cnt_rem (x := S ||| bitI e) he ((hb2 e (by omega)).mpr (Or.inr rfl))
      rw [hs] at z
      exact z.symm
  have cut : ∀ S, inA x e S → acC gaf gpf S → hasB S e → cntL S 16 ≤ c1 + 1 := fun S hS hA q => by
    have z : cntL (S &&& ((bitI e) ^^^ -1)) 16 + 1 = cntL S 16 := cnt_rem (x := S) he q
    have hb2 : ∀ k, k < 32 → (hasB (S &&& ((bitI e) ^^^ -1)) k ↔ hasB S k ∧ ¬ k = e) := fun k hk => by rw [hasB_and hk, hasB_m1 (by omega) hk]
    have := h1.2 (S &&& ((bitI e) ^^^ -1)) (fun k hk q2 => by
      obtain ⟨w1, w2⟩ := (hb2 k hk).mp q2
      obtain ⟨y1, y2⟩ := hS k hk w1
      exact ⟨(hfree k hk).mpr ⟨⟨y1, w2⟩, hA e k (by omega) hk q w1⟩, by omega⟩) (fun a k hak hk q1 q2 => hA a k hak hk ((hb2 a (by omega)).mp q1).1 ((hb2 k hk).mp q2).1)
    omega
  have out : ∀ S, inA x e S → ¬ hasB S e → inA (x &&& ((bitI e) ^^^ -1)) (e + 1) S := fun S hS q k hk q2 => by
    obtain ⟨y1, y2⟩ := hS k hk q2
    have hke : ¬ k = e := fun z => q (z ▸ q2)
    exact ⟨(hrest k hk).mpr ⟨y1, hke⟩, by omega⟩
  have bnd : ∀ S, inA x e S → acC gaf gpf S → cntL S 16 ≤ 1 + c1 ∨ cntL S 16 ≤ c2 := fun S hS hA => by
    by_cases q : hasB S e
    · have := cut S hS hA q; exact Or.inl (by omega)
    · exact Or.inr (h2.2 S (out S hS q) hA)
  obtain ⟨S1, a1, a2, a3⟩ := h1.1
  obtain ⟨S2, b1, b2, b3⟩ := h2.1
  by_cases q : 1 + c1 ≤ c2
  · rw [if_pos q]
    refine ⟨⟨S2, fun k hk w => ?_, b2, b3⟩, fun S hS hA => by rcases bnd S hS hA with z | z <;> omega⟩
    obtain ⟨y1, y2⟩ := b1 k hk w
    exact ⟨((hrest k hk).mp y1).1, by omega⟩
  · rw [if_neg q]
    obtain ⟨y1, y2, y3⟩ := mk S1 a1 a2
    exact ⟨⟨S1 ||| bitI e, y1, y2, by omega⟩, fun S hS hA => by rcases bnd S hS hA with z | z <;> omega⟩
theorem wdM.uniq {c c' : Nat} (h : wdM en anf c) (h' : wdM en anf c') : c = c' := by
  obtain ⟨⟨S, a1, a2, a3⟩, a4⟩ := h
  obtain ⟨⟨T, b1, b2, b3⟩, b4⟩ := h'
  have h1 := b4 S a1 a2
  have h2 := a4 T b1 b2
  omega
end WIDE
theorem wd_CM {en c : Nat} {gsf g1f g2f gaf gpf gmf sof onf otf anf : Nat → Int32} {x : Int32} (hg : gphR en gsf g1f g2f gaf gpf gmf sof onf otf anf) (hen : en ≤ 16) (hx : ∀ k, k < 32 → (hasB x k ↔ k < en)) (h : wdC gaf gpf x 0 c) : wdM en anf c := by
  have i1 : ∀ S, inA x 0 S ↔ sbS en S := fun S => ⟨fun h k h1 h2 q => by have := (hx k h2).mp (h k h2 q).1; omega, fun h k hk q => ⟨(hx k hk).mpr (Nat.not_le.mp (fun z => h k z hk q)), Nat.zero_le _⟩⟩
  have i2 : ∀ S, sbS en S → (acC gaf gpf S ↔ acP en anf S) := fun S hS => by
    have lt : ∀ k, k < 32 → hasB S k → k < en := fun k hk q => Nat.not_le.mp (fun z => hS k z hk q)
    constructor
    · intro h k hk q e he q2 q3
      obtain ⟨_, _, _, _, g5, g6⟩ := hg.1 k hk
      have hek := g6 e he q2
      obtain ⟨_, _, _, _, f5, _⟩ := hg.1 e (by omega)
      exact h e k hek (by omega) q3 q ((hasB_or (by omega)).mpr (Or.inr ((f5 k (by omega)).mpr ⟨hk, q2⟩)))
    · intro h e k hek hk q1 q2 q3
      have hke := lt k hk q2
      obtain ⟨_, _, _, g4, f5, f6⟩ := hg.1 e (by omega)
      rcases (hasB_or hk).mp q3 with z | z
      · rw [g4] at z
        have := f6 k hk z
        omega
      · exact h k hke q2 e (by omega) ((f5 k hk).mp z).2 q1
  obtain ⟨⟨S, h1, h2, h3⟩, h4⟩ := h
  exact ⟨⟨S, (i1 S).mp h1, (i2 S ((i1 S).mp h1)).mp h2, h3⟩, fun T t1 t2 => h4 T ((i1 T).mpr t1) ((i2 T t1).mpr t2)⟩
theorem sb_and {en : Nat} {x y : Int32} (h : sbS en x) : sbS en (x &&& y) := fun k h1 h2 q => h k h1 h2 ((hasB_and h2).mp q).1
theorem wdC.one {gaf gpf : Nat → Int32} {x : Int32} {e c1 : Nat} (he : e < 16) (hb : hasB x e) (h1 : wdC gaf gpf ((x &&& ((bitI e) ^^^ -1)) &&& ((gaf e ||| gpf e) ^^^ -1)) (e + 1) c1) (hq : (x &&& ((bitI e) ^^^ -1)) &&& ((gaf e ||| gpf e) ^^^ -1) = x &&& ((bitI e) ^^^ -1)) : wdC gaf gpf x e (1 + c1) := by
  have h2 := h1
  rw [hq] at h2
  have h := wdC.take he hb h1 h2
  rw [if_neg (by omega)] at h
  exact h
theorem wd_max {c1 c2 : Nat} (h1 : c1 ≤ 16) (h2 : c2 ≤ 16) : (if nI (1 + c1) < nI c2 then nI c2 else nI (1 + c1)) = nI (if 1 + c1 ≤ c2 then c2 else 1 + c1) := by
  by_cases q : 1 + c1 < c2
  · rw [if_pos ((nI_ltI (by omega) (by omega)).mpr q), if_pos (by omega)]
  · rw [if_neg (fun z => q ((nI_ltI (by omega) (by omega)).mp z))]
    by_cases z : 1 + c1 ≤ c2
    · rw [if_pos z, show 1 + c1 = c2 by omega]
    · rw [if_neg z]
/-- all entries -/
theorem all_bits {en : Nat} (hen : en ≤ 16) : ∀ k, k < 32 → (hasB ((nI 1) <<< ((nI en) &&& 31) - nI 1) k ↔ k < en) := by
  have e : ∀ en, en ≤ 16 → ∀ k, k < 32 → (hasB ((nI 1) <<< ((nI en) &&& 31) - nI 1) k ↔ k < en) := by decide +kernel
  exact e en hen
/-- decided for a colour -/
def dsP (kf f : Nat → Int32) (b o k : Nat) : Prop := ∃ i, i < o ∧ kf i = 0 ∧ ¬ f (b + i) &&& dcM = 0 ∧ ((k = 0 ∧ ¬ colF (f (b + i)) = nI 1) ∨ (k = 1 ∧ colF (f (b + i)) = nI 1))
def dsR (kf f : Nat → Int32) (b o : Nat) (r : Int32) : Prop := ∀ k, k < 32 → (hasB r k ↔ dsP kf f b o k)
theorem dsR_0 (kf f : Nat → Int32) (b : Nat) : dsR kf f b 0 (nI 0) := fun k hk => ⟨fun q => absurd q (hasB_0 hk), fun ⟨i, hi, _⟩ => absurd hi (Nat.not_lt_zero _)⟩
theorem dsR_no {kf f : Nat → Int32} {b o : Nat} {r : Int32} (h : dsR kf f b o r) (c : ¬ kf o = 0 ∨ f (b + o) &&& dcM = 0) : dsR kf f b (o + 1) r := fun k hk => by
  rw [h k hk]
  constructor
  · rintro ⟨i, a, q⟩; exact ⟨i, by omega, q⟩
  · rintro ⟨i, a, q1, q2, q3⟩
    by_cases z : i = o
    · subst z
      exact (c.elim (fun w => absurd q1 w) (fun w => absurd w q2))
    · exact ⟨i, by omega, q1, q2, q3⟩
theorem dsR_yes {kf f : Nat → Int32} {b o z : Nat} {r : Int32} (h : dsR kf f b o r) (hz : z < 31) (c : kf o = 0) (d : ¬ f (b + o) &&& dcM = 0) (g : ∀ k, k = z ↔ ((k = 0 ∧ ¬ colF (f (b + o)) = nI 1) ∨ (k = 1 ∧ colF (f (b + o)) = nI 1))) : dsR kf f b (o + 1) (r ||| bitI z) := fun k hk => by
  rw [hasB_orbit hz hk, h k hk, g k]
  constructor
  · rintro (⟨i, a, q⟩ | q)
    · exact ⟨i, by omega, q⟩
    · exact ⟨o, by omega, c, d, q⟩
  · rintro ⟨i, a, q1, q2, q3⟩
    by_cases w : i = o
    · subst w; exact Or.inr q3
    · exact Or.inl ⟨i, by omega, q1, q2, q3⟩
theorem ds_1 {x : Int32} (h : colF x = nI 1) : ∀ k, k = 1 ↔ ((k = 0 ∧ ¬ colF x = nI 1) ∨ (k = 1 ∧ colF x = nI 1)) := fun k => ⟨fun q => Or.inr ⟨q, h⟩, fun q => q.elim (fun z => absurd h z.2) (fun z => z.1)⟩
theorem ds_0 {x : Int32} (h : ¬ colF x = nI 1) : ∀ k, k = 0 ↔ ((k = 0 ∧ ¬ colF x = nI 1) ∨ (k = 1 ∧ colF x = nI 1)) := fun k => ⟨fun q => Or.inl ⟨q, h⟩, fun q => q.elim (fun z => z.1) (fun z => absurd z.2 h)⟩
theorem ds_3 {kf f : Nat → Int32} {b n : Nat} {r : Int32} (h : dsR kf f b n r) : r = nI 3 ↔ dsP kf f b n 0 ∧ dsP kf f b n 1 := by
  have e3 : ∀ k, k < 32 → (hasB (nI 3) k ↔ k = 0 ∨ k = 1) := by decide +kernel
  have hi : ∀ k, dsP kf f b n k → k = 0 ∨ k = 1 := fun k ⟨i, _, _, _, q⟩ => q.imp (fun z => z.1) (fun z => z.1)
  constructor
  · rintro rfl
    exact ⟨(h 0 (by decide)).mp ((e3 0 (by decide)).mpr (Or.inl rfl)), (h 1 (by decide)).mp ((e3 1 (by decide)).mpr (Or.inr rfl))⟩
  · rintro ⟨a, c⟩
    apply hasB_ext
    intro k hk
    rw [h k hk, e3 k hk]
    refine ⟨hi k, fun q => ?_⟩
    rcases q with rfl | rfl
    · exact a
    · exact c
theorem lnk_0 {x : Int32} {j : Nat} (h : (if x >>> ((nI j) &&& 31) &&& nI 1 = nI 1 then nI 1 else nI 0) = 0) : ¬ hasB x j := fun q => by
  rw [if_pos (show x >>> ((nI j) &&& 31) &&& nI 1 = nI 1 from q)] at h
  exact absurd h (by decide)
theorem lnk_1 {x : Int32} {j : Nat} (h : ¬ (if x >>> ((nI j) &&& 31) &&& nI 1 = nI 1 then nI 1 else nI 0) = 0) : hasB x j := by
  apply Decidable.byContradiction
  intro q
  rw [if_neg (show ¬ x >>> ((nI j) &&& 31) &&& nI 1 = nI 1 from q)] at h
  exact h rfl
theorem upr_0 {lf : Nat → Int32} {n o j : Nat} {b : Int32} (h : b = nI (uprC lf n o + upC lf o j)) (hj : o < j) (q : hasB (lf o) j) : b + nI 0 = nI (uprC lf n o + upC lf o (j + 1)) := by
  rw [h, nI_add, upC_s hj, unl_t q, Nat.add_zero, Nat.add_zero]
theorem upr_1 {lf : Nat → Int32} {n o j : Nat} {b : Int32} (h : b = nI (uprC lf n o + upC lf o j)) (hj : o < j) (q : ¬ hasB (lf o) j) : b + nI 1 = nI (uprC lf n o + upC lf o (j + 1)) := by
  rw [h, nI_add, upC_s hj, unl_f q]
  rfl
theorem upr_s {lf : Nat → Int32} {n o j : Nat} {b : Int32} (h : b = nI (uprC lf n o + upC lf o j)) (q : j = n) : b = nI (uprC lf n (o + 1)) := by
  subst q
  exact h
theorem ap_t {f : Nat → Int32} {a b m : Nat} (h : hasB (f (56 + a)) b) : m + sm (fun b => unl (f (56 + a)) b) (b + 1) = m + sm (fun b => unl (f (56 + a)) b) b := by
  show m + (sm (fun b => unl (f (56 + a)) b) b + unl (f (56 + a)) b) = _
  rw [unl_t h, Nat.add_zero]
theorem ap_f {f : Nat → Int32} {a b m : Nat} (h : ¬ hasB (f (56 + a)) b) : m + sm (fun b => unl (f (56 + a)) b) (b + 1) = m + sm (fun b => unl (f (56 + a)) b) b + 1 := by
  show m + (sm (fun b => unl (f (56 + a)) b) b + unl (f (56 + a)) b) = _
  rw [unl_f h, Nat.add_assoc]
/-- the model's split sets -/
def avM (f : Nat → Int32) (sef : Nat → Nat → Int32) (t v : Nat) : Int32 := if f (48 + v) = 0 then sef v (t * 4 + 3) else -1
theorem avM_no {f : Nat → Int32} {sef : Nat → Nat → Int32} {t v : Nat} (h : ¬ f (48 + v) = 0) : avM f sef t v = -1 := if_neg h
theorem avM_yes {f : Nat → Int32} {sef : Nat → Nat → Int32} {t v : Nat} (h : f (48 + v) = 0) : avM f sef t v = sef v (t * 4 + 3) := if_pos h
theorem acc_neg {x : Int32} (hx : x = -1 ∨ ∃ e, e < 16 ∧ x = nI e) (h : x < 0) : x = -1 := hx.resolve_right (fun ⟨e, he, q⟩ => by
  rw [q] at h
  exact absurd h (Int32.not_lt.mpr ((nI_leI (a := 0) (by decide) (by omega)).mpr (Nat.zero_le _))))
theorem m1_neg {x : Int32} (h : ¬ x < 0) : ¬ x = -1 := fun q => h (by rw [q]; decide)
theorem spF_m1 {f : Nat → Int32} {sef : Nat → Nat → Int32} {t o : Nat} {c : Int32} (hq : accQ sef) (ht : t < 8) (ho : o ≤ 8) (h : spF (avM f sef t) o c) (hc : c < 0) : c = -1 := by
  rcases h with ⟨h, _⟩ | ⟨v, hv, h, hne⟩
  · exact h
  · by_cases q : f (48 + v) = 0
    · rw [avM_yes q] at h
      rw [h] at hc ⊢
      exact acc_neg (hq v (by omega) t ht) hc
    · rw [avM_no q] at h
      exact h
theorem spF_first' {av : Nat → Int32} {o : Nat} {c e : Int32} (h : spF av o c) (hc : c = -1) (he : av o = e) (hne : ¬ e = -1) : spF av (o + 1) e ∧ (spM av (o + 1) ↔ spM av o) := by
  subst hc
  subst he
  exact spF_first h hne
theorem spF_same' {av : Nat → Int32} {o : Nat} {c e : Int32} (h : spF av o c) (hc : ¬ c = -1) (he : av o = e) (q : e = c) : spF av (o + 1) c ∧ (spM av (o + 1) ↔ spM av o) := spF_same h hc (he.trans q)
theorem spF_diff' {av : Nat → Int32} {o : Nat} {c e : Int32} (h : spF av o c) (hc : ¬ c = -1) (he : av o = e) (hne : ¬ e = -1) (q : ¬ e = c) : spF av (o + 1) c ∧ spM av (o + 1) := spF_diff h hc (by rw [he]; exact hne) (by rw [he]; exact q)
def sqB (f : Nat → Int32) (sef : Nat → Nat → Int32) (n o o2 : Nat) (b : Int32) : Prop := ∀ k, k < 32 → (hasB b k ↔ (k < o ∧ spM (avM f sef k) n) ∨ (k = o ∧ spM (avM f sef o) o2))
theorem sq_0 {f : Nat → Int32} {sef : Nat → Nat → Int32} {n o : Nat} {b : Int32} (h : ∀ k, k < 32 → (hasB b k ↔ k < o ∧ spM (avM f sef k) n)) : sqB f sef n o 0 b := fun k hk => by
  rw [h k hk]
  exact ⟨Or.inl, fun q => q.elim id (fun ⟨_, i, hi, _⟩ => absurd hi (Nat.not_lt_zero _))⟩
theorem sq_end {f : Nat → Int32} {sef : Nat → Nat → Int32} {n o o2 : Nat} {b : Int32} (h : sqB f sef n o o2 b) (e : o2 = n) : ∀ k, k < 32 → (hasB b k ↔ k < o + 1 ∧ spM (avM f sef k) n) := fun k hk => by
  subst e
  rw [h k hk]
  constructor
  · rintro (⟨q1, q2⟩ | ⟨rfl, q2⟩)
    · exact ⟨by omega, q2⟩
    · exact ⟨by omega, q2⟩
  · rintro ⟨q1, q2⟩
    by_cases z : k = o
    · subst z; exact Or.inr ⟨rfl, q2⟩
    · exact Or.inl ⟨by omega, q2⟩
theorem sq_keep {f : Nat → Int32} {sef : Nat → Nat → Int32} {n o o2 : Nat} {b : Int32} (h : sqB f sef n o o2 b) (e : spM (avM f sef o) (o2 + 1) ↔ spM (avM f sef o) o2) : sqB f sef n o (o2 + 1) b := fun k hk => by rw [h k hk, e]
theorem sq_set {f : Nat → Int32} {sef : Nat → Nat → Int32} {n o o2 : Nat} {b : Int32} (ho : o < 8) (h : sqB f sef n o o2 b) (e : spM (avM f sef o) (o2 + 1)) : sqB f sef n o (o2 + 1) (b ||| bitI o) := fun k hk => by
  rw [hasB_orbit (by omega) hk, h k hk]
  constructor
  · rintro ((q | ⟨q, _⟩) | q)
    · exact Or.inl q
    · exact Or.inr ⟨q, e⟩
    · exact Or.inr ⟨q, e⟩
  · rintro (q | ⟨q, _⟩)
    · exact Or.inl (Or.inl q)
    · exact Or.inr q
theorem spt_iff {f kf : Nat → Int32} {sef : Nat → Nat → Int32} {n t : Nat} (hn : n ≤ 8) (hk : ∀ o, o < 8 → kf o = f (48 + o)) : sptC n kf sef t ↔ spM (avM f sef t) n := by
  constructor
  · rintro ⟨i, i1, j, j1, a, b, c, d, e⟩
    rw [hk i (by omega)] at a
    rw [hk j (by omega)] at b
    exact ⟨i, i1, j, j1, by rw [avM_yes a]; exact c, by rw [avM_yes b]; exact d, by rw [avM_yes a, avM_yes b]; exact e⟩
  · rintro ⟨i, i1, j, j1, c, d, e⟩
    by_cases a : f (48 + i) = 0
    · by_cases b : f (48 + j) = 0
      · rw [avM_yes a] at c e
        rw [avM_yes b] at d e
        exact ⟨i, i1, j, j1, by rw [hk i (by omega)]; exact a, by rw [hk j (by omega)]; exact b, c, d, e⟩
      · exact absurd (avM_no b) d
    · exact absurd (avM_no a) c
/-- the model's widest -/
theorem sb_nat {en : Nat} {S : Int32} (hen : en ≤ 16) (h : sbS en S) : ∃ i, i < 2 ^ en ∧ S = nI i := by
  obtain ⟨v, hv, rfl⟩ := low16 (fun k h1 h2 => h k (by omega) h2)
  refine ⟨v, Nat.lt_pow_two_of_testBit v (fun i hi => ?_), rfl⟩
  by_cases q : i < 32
  · have := h i hi q
    rw [hasB_iff q, nI_bit (by omega)] at this
    exact Bool.eq_false_iff.mpr this
  · exact Nat.testBit_lt_two_pow (Nat.lt_of_lt_of_le hv (Nat.le_trans (show 65536 ≤ 2 ^ 16 by decide) (Nat.pow_le_pow_right (by decide) (by omega))))
theorem pow16 {en : Nat} (hen : en ≤ 16) : 2 ^ en ≤ 65536 := Nat.le_trans (Nat.pow_le_pow_right (by decide) hen) (by decide)
theorem nat_sb {en i : Nat} (hen : en ≤ 16) (hi : i < 2 ^ en) : sbS en (nI i) := fun k h1 h2 => by
  have := pow16 hen
  rw [hasB_iff h2, nI_bit (by omega), Nat.testBit_lt_two_pow (Nat.lt_of_lt_of_le hi (Nat.pow_le_pow_right (by decide) h1))]
  decide
theorem ac_and {x S : Int32} : (∀ k, k < 32 → hasB x k → ¬ hasB S k) ↔ x &&& S = 0 := by
  constructor
  · intro h
    apply hasB_ext
    intro k hk
    rw [hasB_and hk]
    exact ⟨fun q => absurd q.2 (h k hk q.1), fun q => absurd q (hasB_0 hk)⟩
  · intro h k hk q1 q2
    have z := (hasB_and (x := x) (y := S) hk).mpr ⟨q1, q2⟩
    rw [h] at z
    exact hasB_0 hk z
def wmI (en : Nat) (anf : Nat → Int32) (o m : Nat) : Prop := (∃ S, sbS en S ∧ acP en anf S ∧ cntL S 16 = m) ∧ ∀ i, i < o → acP en anf (nI i) → cntL (nI i) 16 ≤ m
theorem cnt0 : cntL (nI 0) 16 = 0 := cnt_hi (n := 0) (fun k hk q => absurd q (hasB_0 (by omega))) 16 (by decide)
theorem wm_0 {en : Nat} (hen : en ≤ 16) (anf : Nat → Int32) : wmI en anf 0 0 := ⟨⟨nI 0, fun k _ hk => hasB_0 hk, fun e he q => absurd q (hasB_0 (by omega)), cnt0⟩, fun i hi => absurd hi (Nat.not_lt_zero _)⟩
theorem wm_skip {en o m : Nat} {anf : Nat → Int32} (h : wmI en anf o m) (q : acP en anf (nI o) → cntL (nI o) 16 ≤ m) : wmI en anf (o + 1) m := ⟨h.1, fun i hi ha => by
  by_cases z : i = o
  · subst z; exact q ha
  · exact h.2 i (by omega) ha⟩
theorem wm_take {en o m : Nat} {anf : Nat → Int32} (hen : en ≤ 16) (ho : o < 2 ^ en) (h : wmI en anf o m) (ha : acP en anf (nI o)) (hm : m < cntL (nI o) 16) : wmI en anf (o + 1) (cntL (nI o) 16) := ⟨⟨nI o, nat_sb hen ho, ha, rfl⟩, fun i hi hb => by
  by_cases z : i = o
  · subst z; exact Nat.le_refl _
  · have := h.2 i (by omega) hb; omega⟩
theorem wm_end {en o m : Nat} {anf : Nat → Int32} (hen : en ≤ 16) (h : wmI en anf o m) (e : 2 ^ en ≤ o) : wdM en anf m := ⟨h.1, fun S hS hA => by
  obtain ⟨i, hi, rfl⟩ := sb_nat hen hS
  exact h.2 i (by omega) hA⟩
theorem wm_le {en o m : Nat} {anf : Nat → Int32} (h : wmI en anf o m) : m ≤ 16 := by
  obtain ⟨⟨S, _, _, h3⟩, _⟩ := h
  rw [← h3]; exact cnt_le S 16
def isI (en : Nat) (anf : Nat → Int32) (S : Int32) (o : Nat) (b : Int32) : Prop := (b = nI 1 ∧ ∀ e, e < o → hasB S e → anf e &&& S = 0) ∨ (b = nI 0 ∧ ∃ e, e < en ∧ hasB S e ∧ ¬ anf e &&& S = 0)
theorem is_yes {en o : Nat} {anf : Nat → Int32} {S b : Int32} (h : isI en anf S o b) (hb : ¬ b = 0) (q : hasB S o → anf o &&& S = 0) : isI en anf S (o + 1) (nI 1) := by
  rcases h with ⟨_, h⟩ | ⟨h, _⟩
  · refine Or.inl ⟨rfl, fun e he q2 => ?_⟩
    by_cases z : e = o
    · subst z; exact q q2
    · exact h e (by omega) q2
  · exact absurd h hb
theorem is_no {en o : Nat} {anf : Nat → Int32} {S : Int32} (ho : o < en) (q : hasB S o) (c : ¬ anf o &&& S = 0) : isI en anf S (o + 1) (nI 0) := Or.inr ⟨rfl, o, ho, q, c⟩
theorem is_ac {en o : Nat} {anf : Nat → Int32} {S b : Int32} (h : isI en anf S o b) (hb : ¬ b = 0) (e : en ≤ o) : acP en anf S := by
  rcases h with ⟨_, h⟩ | ⟨h, _⟩
  · exact fun k hk q => ac_and.mpr (h k (by omega) q)
  · exact absurd h hb
theorem is_nac {en o : Nat} {anf : Nat → Int32} {S b : Int32} (h : isI en anf S o b) (hb : b = 0) : ¬ acP en anf S := by
  rcases h with ⟨h, _⟩ | ⟨_, e, he, q, c⟩
  · exact absurd (h.symm.trans hb) (by decide)
  · exact fun z => c (ac_and.mp (z e he q))
/-- what count tells -/
def cntC (n k al be en ke : Nat) (ea pr pm : Int32) (kf nf lf qf gaf gpf : Nat → Int32) (sef : Nat → Nat → Int32) (w : Nat) (r : Int32) : Prop := (w = 0 ∧ r = nI n) ∨ (w = 1 ∧ r = nI k) ∨ (w = 2 ∧ r = nI al) ∨ (w = 3 ∧ r = nI be) ∨ (w = 4 ∧ r = ea) ∨ (w = 5 ∧ r = pr) ∨ (w = 6 ∧ ∀ k, k < 32 → (hasB r k ↔ k < n ∧ kf k = 0)) ∨ (w = 7 ∧ ∀ k, k < 32 → (hasB r k ↔ k < n ∧ ¬ nf k &&& dcM = 0)) ∨ (w = 8 ∧ ∀ k, k < 32 → (hasB r k ↔ k < n ∧ kf k = 0 ∧ colF (nf (0 + k)) = nI 1)) ∨ (w = 9 ∧ r = nI en) ∨ (w = 10 ∧ ∀ k, k < 32 → (hasB r k ↔ k < 8 ∧ sptC n kf sef k)) ∨ (w = 11 ∧ ∃ c x, c ≤ 16 ∧ r = nI c ∧ wdC gaf gpf x 0 c ∧ ∀ k, k < 32 → (hasB x k ↔ k < en)) ∨ (w = 12 ∧ r = qsm qf n) ∨ (w = 13 ∧ r = pm) ∨ (w = 14 ∧ PQ (dsP kf nf 0 n 0 ∧ dsP kf nf 0 n 1) r (nI 1) (nI 0)) ∨ (w = 15 ∧ r = nI (uprC lf n n)) ∨ (w = 16 ∧ r = nI ke)
def cntM (n k al be en km : Nat) (ea pr nq po : Int32) (f anf : Nat → Int32) (sef : Nat → Nat → Int32) (w : Nat) (r : Int32) : Prop := (w = 0 ∧ r = nI n) ∨ (w = 1 ∧ r = nI k) ∨ (w = 2 ∧ r = nI al) ∨ (w = 3 ∧ r = nI be) ∨ (w = 4 ∧ r = ea) ∨ (w = 5 ∧ r = pr) ∨ (w = 6 ∧ ∀ k, k < 32 → (hasB r k ↔ k < n ∧ f (48 + k) = nI 0)) ∨ (w = 7 ∧ ∀ k, k < 32 → (hasB r k ↔ k < n ∧ f (40 + k) = nI 1)) ∨ (w = 8 ∧ ∀ k, k < 32 → (hasB r k ↔ k < n ∧ f (48 + k) = 0 ∧ f (0 + k) = nI 1)) ∨ (w = 9 ∧ r = nI en) ∨ (w = 10 ∧ ∀ k, k < 32 → (hasB r k ↔ k < 8 ∧ spM (avM f sef k) n)) ∨ (w = 11 ∧ ∃ c, c ≤ 16 ∧ r = nI c ∧ wdM en anf c) ∨ (w = 12 ∧ r = nq) ∨ (w = 13 ∧ r = po) ∨ (w = 14 ∧ PQ (splP n f) r (nI 1) (nI 0)) ∨ (w = 15 ∧ r = nI (apM f n)) ∨ (w = 16 ∧ r = nI km)
/-- decided ones have a colour, links go both ways -/
def okF (f : Nat → Int32) : Prop := (∀ j, j < 8 → f (40 + j) = nI 1 → ¬ f (0 + j) < 0) ∧ ∀ i j, i < 8 → j < 8 → (hasB (f (56 + i)) j ↔ hasB (f (56 + j)) i)
theorem bits_eq {P Q : Nat → Prop} {r r2 : Int32} (h : ∀ k, k < 32 → (hasB r k ↔ P k)) (h2 : ∀ k, k < 32 → (hasB r2 k ↔ Q k)) (e : ∀ k, k < 32 → (P k ↔ Q k)) : r = r2 := hasB_ext (fun k hk => (h k hk).trans ((e k hk).trans (h2 k hk).symm))
theorem dec_iff {be j : Nat} {nf kf lf f : Nat → Int32} {u : Nat → Nat} (h : relN be nf kf lf f u j) : ¬ nf j &&& dcM = 0 ↔ f (40 + j) = nI 1 := by
  obtain ⟨a1, a2, a3, _⟩ := h
  have h5 := a3.2.2.2.2.2.1
  rw [a1.dec, a2.2.2.2.2.2]
  rcases (show u 5 = 0 ∨ u 5 = 1 by omega) with q | q
  · rw [q]; exact ⟨fun z => absurd rfl z, fun z => absurd z (by decide)⟩
  · rw [q]; exact ⟨fun _ => rfl, fun _ => by decide⟩
theorem col_eq {be j : Nat} {nf kf lf f : Nat → Int32} {u : Nat → Nat} (h : relN be nf kf lf f u j) : colF (nf j) = f (0 + j) := by
  obtain ⟨a1, a2, _⟩ := h
  rw [a1.col, ← a2.1]
theorem spl_iff {be n : Nat} {nf kf lf f : Nat → Int32} {s : Nat → Nat → Nat} (hn : n ≤ 8) (hr : relA be nf kf lf f s) (hk : okF f) : (dsP kf nf 0 n 0 ∧ dsP kf nf 0 n 1) ↔ splP n f := by
  have key : ∀ i, i < 8 → (kf i = 0 ∧ ¬ nf (0 + i) &&& dcM = 0 ↔ decB f i) := fun i hi => by
    rw [Nat.zero_add, dec_iff (hr i hi), (hr i hi).2.2.2.1]
    exact Iff.rfl
  have cl : ∀ i, i < 8 → colF (nf (0 + i)) = f (0 + i) := fun i hi => by
    rw [Nat.zero_add]
    have := col_eq (hr i hi)
    rw [Nat.zero_add] at this
    exact this
  have c2 : ∀ i, i < 8 → decB f i → f (0 + i) = nI 0 ∨ f (0 + i) = nI 1 := fun i hi hd => by
    have h1 := hk.1 i hi hd.2
    obtain ⟨_, a2, a3, _⟩ := hr i hi
    have := a3.1
    rcases (show s i 0 = 0 ∨ s i 0 = 1 ∨ s i 0 = 2 by omega) with q | q | q
    · exfalso; apply h1; rw [a2.1, q]; decide
    · left; rw [a2.1, q]; decide
    · right; rw [a2.1, q]; decide
  constructor
  · rintro ⟨⟨i, i1, i2, i3, i4⟩, j, j1, j2, j3, j4⟩
    have di := (key i (by omega)).mp ⟨i2, i3⟩
    have dj := (key j (by omega)).mp ⟨j2, j3⟩
    have ei : ¬ f (0 + i) = nI 1 := by
      rcases i4 with ⟨_, z⟩ | ⟨z, _⟩
      · rw [cl i (by omega)] at z; exact z
      · exact absurd z (by decide)
    have ej : f (0 + j) = nI 1 := by
      rcases j4 with ⟨z, _⟩ | ⟨_, z⟩
      · exact absurd z (by decide)
      · rw [cl j (by omega)] at z; exact z
    have hij : ¬ i = j := fun z => ei (z ▸ ej)
    rcases (show i < j ∨ j < i by omega) with q | q
    · exact ⟨j, j1, i, q, dj, di, fun z => ei (z.symm.trans ej)⟩
    · exact ⟨i, i1, j, q, di, dj, fun z => ei (z.trans ej)⟩
  · rintro ⟨a, a1, b, b1, da, db, hne⟩
    have mk : ∀ i, i < n → decB f i → ∀ z, (z = 0 ∧ ¬ colF (nf (0 + i)) = nI 1) ∨ (z = 1 ∧ colF (nf (0 + i)) = nI 1) → dsP kf nf 0 n z := fun i hi hd z q => by
      obtain ⟨q1, q2⟩ := (key i (by omega)).mpr hd
      exact ⟨i, hi, q1, q2, q⟩
    rcases c2 a (by omega) da with ea | ea <;> rcases c2 b (by omega) db with eb | eb
    · exact absurd (ea.trans eb.symm) hne
    · exact ⟨mk a a1 da 0 (Or.inl ⟨rfl, by rw [cl a (by omega), ea]; decide⟩), mk b (by omega) db 1 (Or.inr ⟨rfl, by rw [cl b (by omega), eb]⟩)⟩
    · exact ⟨mk b (by omega) db 0 (Or.inl ⟨rfl, by rw [cl b (by omega), eb]; decide⟩), mk a a1 da 1 (Or.inr ⟨rfl, by rw [cl a (by omega), ea]⟩)⟩
    · exact absurd (ea.trans eb.symm) hne
