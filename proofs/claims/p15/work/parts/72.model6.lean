theorem and_lt (x : Int32) : ∃ v, v < 8192 ∧ x &&& nI 8191 = nI v := by
  refine ⟨(x &&& nI 8191).toBitVec.toNat, ?_, ?_⟩
  · rw [Int32.toBitVec_and, BitVec.toNat_and]
    exact Nat.lt_of_le_of_lt Nat.and_le_right (by decide)
  · exact Int32.toBitVec_inj.mp (BitVec.eq_of_toNat_eq (by show _ = (BitVec.ofNat 32 _).toNat; rw [BitVec.toNat_ofNat, Nat.mod_eq_of_lt (BitVec.isLt _)]))
/-- no injection of c into fewer -/
theorem pigeon : ∀ (m c : Nat) (g : Nat → Nat), (∀ i, i < c → g i < m) → (∀ i j, i < c → j < c → g i = g j → i = j) → c ≤ m
  | 0, c, g, h, _ => by
    apply Decidable.byContradiction
    intro q
    exact absurd (h 0 (by omega)) (Nat.not_lt_zero _)
  | m + 1, 0, g, _, _ => Nat.zero_le _
  | m + 1, c + 1, g, h, hi => by
    have := pigeon m c (fun i => if g i = m then g c else g i) (fun i hc => by
      show (if g i = m then g c else g i) < m
      have h1 := h i (by omega)
      have h2 := h c (by omega)
      by_cases q : g i = m
      · rw [if_pos q]
        have : g c ≠ m := fun z => by have := hi i c (by omega) (by omega) (by omega); omega
        omega
      · rw [if_neg q]; omega) (fun i j h1 h2 e => by
      change (if g i = m then g c else g i) = (if g j = m then g c else g j) at e
      by_cases q1 : g i = m <;> by_cases q2 : g j = m
      · exact hi i j (by omega) (by omega) (by omega)
      · rw [if_pos q1, if_neg q2] at e
        have := hi c j (by omega) (by omega) e
        omega
      · rw [if_neg q1, if_pos q2] at e
        have := hi i c (by omega) (by omega) e
        omega
      · rw [if_neg q1, if_neg q2] at e
        exact hi i j (by omega) (by omega) e)
    omega
/-- a table of at most sz numbers, each of them once -/
def tabP (sz : Nat) (f : Nat → Int32) : Prop := (∀ i, i < 8192 → f i = nI 0 ∨ ∃ m, m < sz ∧ f i = nI (m + 1)) ∧ ∀ i j, i < 8192 → j < 8192 → f i = f j → ¬ f i = nI 0 → i = j
theorem tab_room {sz k c : Nat} {f : Nat → Int32} (h : tabP sz f) (hs : sz ≤ 2000) (hc : c ≤ 8192) (hv : ∀ i, i < c → ¬ f ((k + i) % 8192) = nI 0) : c ≤ sz := by
  refine pigeon sz c (fun i => (f ((k + i) % 8192)).toNatClampNeg - 1) (fun i hi => ?_) (fun i j hi hj e => ?_)
  · obtain ⟨m, hm, q⟩ := (h.1 _ (Nat.mod_lt (k + i) (by decide))).resolve_left (hv i hi)
    show (f ((k + i) % 8192)).toNatClampNeg - 1 < sz
    rw [q, nI_clamp (by omega)]
    omega
  · change (f ((k + i) % 8192)).toNatClampNeg - 1 = (f ((k + j) % 8192)).toNatClampNeg - 1 at e
    obtain ⟨m, hm, q⟩ := (h.1 _ (Nat.mod_lt (k + i) (by decide))).resolve_left (hv i hi)
    obtain ⟨m2, hm2, q2⟩ := (h.1 _ (Nat.mod_lt (k + j) (by decide))).resolve_left (hv j hj)
    rw [q, q2, nI_clamp (by omega), nI_clamp (by omega)] at e
    have := h.2 _ _ (Nat.mod_lt (k + i) (by decide)) (Nat.mod_lt (k + j) (by decide)) (by rw [q, q2, show m + 1 = m2 + 1 by omega]) (hv i hi)
    omega
theorem nI_inj' {a b : Nat} (ha : a < 2 ^ 31) (hb : b < 2 ^ 31) (h : nI a = nI b) : a = b := (nI_eq ha hb).mp h
theorem tab_add {sz k : Nat} {f : Nat → Int32} (h : tabP sz f) (hs : sz < 2000) (upd : (Nat → Int32)) (hu : ∀ j, upd j = if j = k then nI (sz + 1) else f j) : tabP (sz + 1) upd := by
  have ne0 : ¬ nI (sz + 1) = nI 0 := fun q => absurd (nI_inj' (by omega) (by decide) q) (by omega)
  refine ⟨fun i hi => ?_, fun i j hi hj e hn => ?_⟩
  · rw [hu]
    by_cases q : i = k
    · rw [if_pos q]; exact Or.inr ⟨sz, by omega, rfl⟩
    · rw [if_neg q]
      rcases h.1 i hi with z | ⟨m, hm, z⟩
      · exact Or.inl z
      · exact Or.inr ⟨m, by omega, z⟩
  · rw [hu, hu] at e
    rw [hu] at hn
    by_cases q : i = k <;> by_cases q2 : j = k
    · omega
    · rw [if_pos q, if_neg q2] at e
      rcases h.1 j hj with z | ⟨m, hm, z⟩
      · rw [z] at e; exact absurd e ne0
      · rw [z] at e; have := nI_inj' (by omega) (by omega) e; omega
    · rw [if_neg q, if_pos q2] at e
      rcases h.1 i hi with z | ⟨m, hm, z⟩
      · rw [z] at e; exact absurd e.symm ne0
      · rw [z] at e; have := nI_inj' (by omega) (by omega) e; omega
    · rw [if_neg q, if_neg q2] at e
      rw [if_neg q] at hn
      exact h.2 i j hi hj e hn
theorem tab_0 {f : Nat → Int32} (h : ∀ j, j < 8192 → f j = nI 0) : tabP 0 f := ⟨fun i hi => Or.inl (h i hi), fun i _ hi _ _ hn => absurd (h i hi) hn⟩

/-- one is decided; two are of two colours -/
abbrev decB (f : Nat → Int32) (a : Nat) : Prop := f (48 + a) = nI 0 ∧ f (40 + a) = nI 1
abbrev splB (f : Nat → Int32) (a b : Nat) : Prop := decB f a ∧ decB f b ∧ ¬ f (0 + a) = f (0 + b)
def splP (n : Nat) (f : Nat → Int32) : Prop := ∃ a, a < n ∧ ∃ b, b < a ∧ splB f a b

set_option maxHeartbeats 4000000 in
set_option maxRecDepth 100000 in
theorem c_X12_isDecided (l : Launch) (D : va_G) (cs : Nat → ClassId) (hm ms mkp mtr mas mso mon mot man mst msm mtb mti mfr mbn mbs mde maa mab mba mbb : Nat) (n k al be km en : Nat) (ea pr nq po th xd sF sN sS ig : Int32) (xa xb : Int64) (f : Nat → Int32) (a : Nat) (ha : a < 8) : xMet l D cs yX12_isDecided cX12_isDecided 2 (some .boolean) ({ frames := 0, cells := 0, slots := 0, locals := 0 } : Room) [.ref hm, .int (nI a)] [(hm, .inr (12, [.ref ms, .ref mkp, .int (nI km), .ref mtr, .int (nI n), .int (nI k), .int (nI al), .int (nI be), .int ea, .int pr, .ref mas, .int nq, .int po, .int (nI en), .ref mso, .ref mon, .ref mot, .ref man, .int th, .int xd, .ref mst, .ref msm, .ref mtb, .ref mti, .ref mfr, .ref mbn, .ref mbs, .ref mde, .int sF, .int sN, .int sS, .int ig, .long xa, .long xb, .ref maa, .ref mab, .ref mba, .ref mbb])), (ms, .inl (cs 0, 288, .inl f))] (xQi D (fun (r : Int32) (_u : Unit) => PQ (decB f a) r (nI 1) (nI 0)) (fun (_u : Unit) => [(hm, .inr (12, [.ref ms, .ref mkp, .int (nI km), .ref mtr, .int (nI n), .int (nI k), .int (nI al), .int (nI be), .int ea, .int pr, .ref mas, .int nq, .int po, .int (nI en), .ref mso, .ref mon, .ref mot, .ref man, .int th, .int xd, .ref mst, .ref msm, .ref mtb, .ref mti, .ref mfr, .ref mbn, .ref mbs, .ref mde, .int sF, .int sN, .int sS, .int ig, .long xa, .long xb, .ref maa, .ref mab, .ref mba, .ref mbb])), (ms, .inl (cs 0, 288, .inl f))])) := by
  refine xMet.intro (by decide) (Nat.le_of_ble_eq_true rfl) ?_
  intro p e s m args below meth c A ls C hP hD hS hl
  have hx := C.1
  have hb := C.2.1
  have hz := C.2.2.2.2.1
  have hown := C.2.2.2.1
  have hA := C.2.2.2.2.2.2.2.2.2
  have hAO := C.2.2.2.2.2.2.2.2.1.2.2
  replace hl : lv_has ls 2 [(0, .ref hm), (1, .int (nI a))] := hl
  obtain ⟨H, hH⟩ : ∃ H, H = s.heap := ⟨_, rfl⟩
  replace hP : va_P D vwCl [(hm, .inr (12, [.ref ms, .ref mkp, .int (nI km), .ref mtr, .int (nI n), .int (nI k), .int (nI al), .int (nI be), .int ea, .int pr, .ref mas, .int nq, .int po, .int (nI en), .ref mso, .ref mon, .ref mot, .ref man, .int th, .int xd, .ref mst, .ref msm, .ref mtb, .ref mti, .ref mfr, .ref mbn, .ref mbs, .ref mde, .int sF, .int sN, .int sS, .int ig, .long xa, .long xb, .ref maa, .ref mab, .ref mba, .ref mbb])), (ms, .inl (cs 0, 288, .inl f))] H := by rw [hH]; exact hP
  replace hS : va_S A s.heap H [] := by rw [hH]; exact hS
  obtain ⟨locs, hlocs⟩ : ∃ z : List Loc, z = [] := ⟨_, rfl⟩
  rw [← hlocs] at hS
  suffices hW : W p l e ({ frames := 0, cells := 0, slots := 0, locals := 0 } : Room) s m args below meth c H locs 0 0 (MQ below ((xQi D (fun (r : Int32) (_u : Unit) => PQ (decB f a) r (nI 1) (nI 0)) (fun (_u : Unit) => [(hm, .inr (12, [.ref ms, .ref mkp, .int (nI km), .ref mtr, .int (nI n), .int (nI k), .int (nI al), .int (nI be), .int ea, .int pr, .ref mas, .int nq, .int po, .int (nI en), .ref mso, .ref mon, .ref mot, .ref man, .int th, .int xd, .ref mst, .ref msm, .ref mtb, .ref mti, .ref mfr, .ref mbn, .ref mbs, .ref mde, .int sF, .int sN, .int sS, .int ig, .long xa, .long xb, .ref maa, .ref mab, .ref mba, .ref mbb])), (ms, .inl (cs 0, 288, .inl f))])) A) args s 0 0 A) (F0 m 0 ls []) by rw [hlocs, hH] at hW; exact hW
  clear hH hlocs
  refine lv_aload_n hx hb dX12_isDecided_0 rfl (lv_at hl 0 rfl) ?_
  refine xget C hP 0 rfl rfl zuX12 0 (by decide) zw5_213 rfl dX12_isDecided_1 ?_
  refine lv_bipush (v := nI 48) hx hb dX12_isDecided_4 (by decide) ?_
  refine lv_iload_n hx hb dX12_isDecided_6 rfl (lv_at hl 1 rfl) ?_
  refine lv_iadd hx hb dX12_isDecided_7 ?_
  refine lv_topi (nm_r (e' := nI (48 + a)) (nI_add _ _) ?_)
  refine xiald C hP 1 rfl (48 + a) rfl (by omega) (by decide) dX12_isDecided_8 ?_
  refine lv_if_ne (tgt := 29) hx hb dX12_isDecided_9 (by decide) (fun c_1 => ?_) (fun c_1 => ?_)
  · -- 9 t
    refine lv_iconst (v := nI 0) hx hb dX12_isDecided_29 (by decide) ?_
    exact xreti C () (Or.inr ⟨fun q => c_1 q.1, rfl⟩) hP hD hS (Nat.le_of_ble_eq_true rfl) (Nat.le_of_ble_eq_true rfl) (by decide) dX12_isDecided_30
  · -- 9 f
    refine lv_aload_n hx hb dX12_isDecided_12 rfl (lv_at hl 0 rfl) ?_
    refine xget C hP 0 rfl rfl zuX12 0 (by decide) zw5_213 rfl dX12_isDecided_13 ?_
    refine lv_bipush (v := nI 40) hx hb dX12_isDecided_16 (by decide) ?_
    refine lv_iload_n hx hb dX12_isDecided_18 rfl (lv_at hl 1 rfl) ?_
    refine lv_iadd hx hb dX12_isDecided_19 ?_
    refine lv_topi (nm_r (e' := nI (40 + a)) (nI_add _ _) ?_)
    refine xiald C hP 1 rfl (40 + a) rfl (by omega) (by decide) dX12_isDecided_20 ?_
    refine lv_iconst (v := nI 1) hx hb dX12_isDecided_21 (by decide) ?_
    refine lv_icmp_ne (tgt := 29) hx hb dX12_isDecided_22 (by decide) (fun c_2 => ?_) (fun c_2 => ?_)
    · -- 22 t
      refine lv_iconst (v := nI 0) hx hb dX12_isDecided_29 (by decide) ?_
      exact xreti C () (Or.inr ⟨fun q => c_2 q.2, rfl⟩) hP hD hS (Nat.le_of_ble_eq_true rfl) (Nat.le_of_ble_eq_true rfl) (by decide) dX12_isDecided_30
    · -- 22 f
      refine lv_iconst (v := nI 1) hx hb dX12_isDecided_25 (by decide) ?_
      refine lv_goto (tgt := 30) hx hb dX12_isDecided_26 (by decide) ?_
      exact xreti C () (Or.inl ⟨⟨c_1, c_2⟩, rfl⟩) hP hD hS (Nat.le_of_ble_eq_true rfl) (Nat.le_of_ble_eq_true rfl) (by decide) dX12_isDecided_30

set_option maxHeartbeats 4000000 in
set_option maxRecDepth 100000 in
theorem c_X12_areSplit (l : Launch) (D : va_G) (cs : Nat → ClassId) (hm ms mkp mtr mas mso mon mot man mst msm mtb mti mfr mbn mbs mde maa mab mba mbb : Nat) (n k al be km en : Nat) (ea pr nq po th xd sF sN sS ig : Int32) (xa xb : Int64) (f : Nat → Int32) (hn : 2 ≤ n ∧ n ≤ 8) : xMet l D cs yX12_areSplit cX12_areSplit 3 (some .boolean) ({ frames := 1, cells := 0, slots := 0, locals := 21 } : Room) [.ref hm] [(hm, .inr (12, [.ref ms, .ref mkp, .int (nI km), .ref mtr, .int (nI n), .int (nI k), .int (nI al), .int (nI be), .int ea, .int pr, .ref mas, .int nq, .int po, .int (nI en), .ref mso, .ref mon, .ref mot, .ref man, .int th, .int xd, .ref mst, .ref msm, .ref mtb, .ref mti, .ref mfr, .ref mbn, .ref mbs, .ref mde, .int sF, .int sN, .int sS, .int ig, .long xa, .long xb, .ref maa, .ref mab, .ref mba, .ref mbb])), (ms, .inl (cs 0, 288, .inl f))] (xQi D (fun (r : Int32) (_u : Unit) => PQ (splP n f) r (nI 1) (nI 0)) (fun (_u : Unit) => [(hm, .inr (12, [.ref ms, .ref mkp, .int (nI km), .ref mtr, .int (nI n), .int (nI k), .int (nI al), .int (nI be), .int ea, .int pr, .ref mas, .int nq, .int po, .int (nI en), .ref mso, .ref mon, .ref mot, .ref man, .int th, .int xd, .ref mst, .ref msm, .ref mtb, .ref mti, .ref mfr, .ref mbn, .ref mbs, .ref mde, .int sF, .int sN, .int sS, .int ig, .long xa, .long xb, .ref maa, .ref mab, .ref mba, .ref mbb])), (ms, .inl (cs 0, 288, .inl f))])) := by
  refine xMet.intro (by decide) (Nat.le_of_ble_eq_true rfl) ?_
  intro p e s m args below meth c A ls C hP hD hS hl
  have hx := C.1
  have hb := C.2.1
  have hz := C.2.2.2.2.1
  have hown := C.2.2.2.1
  have hA := C.2.2.2.2.2.2.2.2.2
  have hAO := C.2.2.2.2.2.2.2.2.1.2.2
  replace hl : lv_has ls 3 [(0, .ref hm)] := hl
  obtain ⟨H, hH⟩ : ∃ H, H = s.heap := ⟨_, rfl⟩
  replace hP : va_P D vwCl [(hm, .inr (12, [.ref ms, .ref mkp, .int (nI km), .ref mtr, .int (nI n), .int (nI k), .int (nI al), .int (nI be), .int ea, .int pr, .ref mas, .int nq, .int po, .int (nI en), .ref mso, .ref mon, .ref mot, .ref man, .int th, .int xd, .ref mst, .ref msm, .ref mtb, .ref mti, .ref mfr, .ref mbn, .ref mbs, .ref mde, .int sF, .int sN, .int sS, .int ig, .long xa, .long xb, .ref maa, .ref mab, .ref mba, .ref mbb])), (ms, .inl (cs 0, 288, .inl f))] H := by rw [hH]; exact hP
  replace hS : va_S A s.heap H [] := by rw [hH]; exact hS
  obtain ⟨locs, hlocs⟩ : ∃ z : List Loc, z = [] := ⟨_, rfl⟩
  rw [← hlocs] at hS
  suffices hW : W p l e ({ frames := 1, cells := 0, slots := 0, locals := 21 } : Room) s m args below meth c H locs 0 0 (MQ below ((xQi D (fun (r : Int32) (_u : Unit) => PQ (splP n f) r (nI 1) (nI 0)) (fun (_u : Unit) => [(hm, .inr (12, [.ref ms, .ref mkp, .int (nI km), .ref mtr, .int (nI n), .int (nI k), .int (nI al), .int (nI be), .int ea, .int pr, .ref mas, .int nq, .int po, .int (nI en), .ref mso, .ref mon, .ref mot, .ref man, .int th, .int xd, .ref mst, .ref msm, .ref mtb, .ref mti, .ref mfr, .ref mbn, .ref mbs, .ref mde, .int sF, .int sN, .int sS, .int ig, .long xa, .long xb, .ref maa, .ref mab, .ref mba, .ref mbb])), (ms, .inl (cs 0, 288, .inl f))])) A) args s 0 0 A) (F0 m 0 ls []) by rw [hlocs, hH] at hW; exact hW
  clear hH hlocs
  refine lv_iconst (v := nI 0) hx hb dX12_areSplit_0 (by decide) ?_
  refine lv_istore_n (lv' := [(1, .int (nI 0)), (0, .ref hm)]) hx hb dX12_areSplit_1 rfl hl (by decide) rfl ?_
  clear hl
  try clear ls
  intro ls hl
  have loop_1 : ∀ (n_loop_1 : Nat) (o : Nat), (o ≤ n) → (∀ a, a < o → ∀ b, b < a → ¬ splB f a b) → n - o < n_loop_1 → ∀ (H : Heap) (locs : List Loc) (ls : Array Slot), va_P D vwCl [(hm, .inr (12, [.ref ms, .ref mkp, .int (nI km), .ref mtr, .int (nI n), .int (nI k), .int (nI al), .int (nI be), .int ea, .int pr, .ref mas, .int nq, .int po, .int (nI en), .ref mso, .ref mon, .ref mot, .ref man, .int th, .int xd, .ref mst, .ref msm, .ref mtb, .ref mti, .ref mfr, .ref mbn, .ref mbs, .ref mde, .int sF, .int sN, .int sS, .int ig, .long xa, .long xb, .ref maa, .ref mab, .ref mba, .ref mbb])), (ms, .inl (cs 0, 288, .inl f))] H → va_D A [(hm, .inr (12, [.ref ms, .ref mkp, .int (nI km), .ref mtr, .int (nI n), .int (nI k), .int (nI al), .int (nI be), .int ea, .int pr, .ref mas, .int nq, .int po, .int (nI en), .ref mso, .ref mon, .ref mot, .ref man, .int th, .int xd, .ref mst, .ref msm, .ref mtb, .ref mti, .ref mfr, .ref mbn, .ref mbs, .ref mde, .int sF, .int sN, .int sS, .int ig, .long xa, .long xb, .ref maa, .ref mab, .ref mba, .ref mbb])), (ms, .inl (cs 0, 288, .inl f))] → va_S A s.heap H locs → lv_has ls 3 [(1, .int (nI o)), (0, .ref hm)] → W p l e ({ frames := 1, cells := 0, slots := 0, locals := 21 } : Room) s m args below meth c H locs 0 0 (MQ below ((xQi D (fun (r : Int32) (_u : Unit) => PQ (splP n f) r (nI 1) (nI 0)) (fun (_u : Unit) => [(hm, .inr (12, [.ref ms, .ref mkp, .int (nI km), .ref mtr, .int (nI n), .int (nI k), .int (nI al), .int (nI be), .int ea, .int pr, .ref mas, .int nq, .int po, .int (nI en), .ref mso, .ref mon, .ref mot, .ref man, .int th, .int xd, .ref mst, .ref msm, .ref mtb, .ref mti, .ref mfr, .ref mbn, .ref mbs, .ref mde, .int sF, .int sN, .int sS, .int ig, .long xa, .long xb, .ref maa, .ref mab, .ref mba, .ref mbb])), (ms, .inl (cs 0, 288, .inl f))])) A) args s 0 0 A) (F0 m 2 ls []) := by
    intro n_loop_1
    induction n_loop_1 with
    | zero => intro o h_o hs9 hlt H locs ls hP hD hS hl; exact absurd hlt (Nat.not_lt_zero _)
    | succ n_loop_1 ih_loop_1 =>
      intro o h_o hs9 hlt_loop_1 H locs ls hP hD hS hl
      refine lv_iload_n hx hb dX12_areSplit_2 rfl (lv_at hl 0 rfl) ?_
      refine lv_aload_n hx hb dX12_areSplit_3 rfl (lv_at hl 1 rfl) ?_
      refine xget C hP 0 rfl rfl zuX12 4 (by decide) zw5_217 rfl dX12_areSplit_4 ?_
      refine lv_icmp_ge (tgt := 66) hx hb dX12_areSplit_7 (by decide) (fun c_2 => ?_) (fun c_2 => ?_)
      · -- 7 t
        have fc_2 : n ≤ o := nf_le (by omega) (by omega) c_2
        refine lv_iconst (v := nI 0) hx hb dX12_areSplit_66 (by decide) ?_
        exact xreti C () (Or.inr ⟨fun ⟨a, ha, b, hb, q⟩ => hs9 a (by omega) b hb q, rfl⟩) hP hD hS (Nat.le_of_ble_eq_true rfl) (Nat.le_of_ble_eq_true rfl) (by decide) dX12_areSplit_67
      · -- 7 f
        have fc_2 : o < n := nf_nle (by omega) (by omega) c_2
        refine lv_iconst (v := nI 0) hx hb dX12_areSplit_10 (by decide) ?_
        refine lv_istore_n (lv' := [(2, .int (nI 0)), (1, .int (nI o)), (0, .ref hm)]) hx hb dX12_areSplit_11 rfl hl (by decide) rfl ?_
        clear hl
        try clear ls
        intro ls hl
        have loop_3 : ∀ (n_loop_3 : Nat) (o2 : Nat), (o2 ≤ o) → (∀ b, b < o2 → ¬ splB f o b) → o - o2 < n_loop_3 → ∀ (H : Heap) (locs : List Loc) (ls : Array Slot), va_P D vwCl [(hm, .inr (12, [.ref ms, .ref mkp, .int (nI km), .ref mtr, .int (nI n), .int (nI k), .int (nI al), .int (nI be), .int ea, .int pr, .ref mas, .int nq, .int po, .int (nI en), .ref mso, .ref mon, .ref mot, .ref man, .int th, .int xd, .ref mst, .ref msm, .ref mtb, .ref mti, .ref mfr, .ref mbn, .ref mbs, .ref mde, .int sF, .int sN, .int sS, .int ig, .long xa, .long xb, .ref maa, .ref mab, .ref mba, .ref mbb])), (ms, .inl (cs 0, 288, .inl f))] H → va_D A [(hm, .inr (12, [.ref ms, .ref mkp, .int (nI km), .ref mtr, .int (nI n), .int (nI k), .int (nI al), .int (nI be), .int ea, .int pr, .ref mas, .int nq, .int po, .int (nI en), .ref mso, .ref mon, .ref mot, .ref man, .int th, .int xd, .ref mst, .ref msm, .ref mtb, .ref mti, .ref mfr, .ref mbn, .ref mbs, .ref mde, .int sF, .int sN, .int sS, .int ig, .long xa, .long xb, .ref maa, .ref mab, .ref mba, .ref mbb])), (ms, .inl (cs 0, 288, .inl f))] → va_S A s.heap H locs → lv_has ls 3 [(2, .int (nI o2)), (1, .int (nI o)), (0, .ref hm)] → W p l e ({ frames := 1, cells := 0, slots := 0, locals := 21 } : Room) s m args below meth c H locs 0 0 (MQ below ((xQi D (fun (r : Int32) (_u : Unit) => PQ (splP n f) r (nI 1) (nI 0)) (fun (_u : Unit) => [(hm, .inr (12, [.ref ms, .ref mkp, .int (nI km), .ref mtr, .int (nI n), .int (nI k), .int (nI al), .int (nI be), .int ea, .int pr, .ref mas, .int nq, .int po, .int (nI en), .ref mso, .ref mon, .ref mot, .ref man, .int th, .int xd, .ref mst, .ref msm, .ref mtb, .ref mti, .ref mfr, .ref mbn, .ref mbs, .ref mde, .int sF, .int sN, .int sS, .int ig, .long xa, .long xb, .ref maa, .ref mab, .ref mba, .ref mbb])), (ms, .inl (cs 0, 288, .inl f))])) A) args s 0 0 A) (F0 m 12 ls []) := by
          intro n_loop_3
          induction n_loop_3 with
          | zero => intro o2 h_o2 hs8 hlt H locs ls hP hD hS hl; exact absurd hlt (Nat.not_lt_zero _)
          | succ n_loop_3 ih_loop_3 =>
            intro o2 h_o2 hs8 hlt_loop_3 H locs ls hP hD hS hl
            refine lv_iload_n hx hb dX12_areSplit_12 rfl (lv_at hl 0 rfl) ?_
            refine lv_iload_n hx hb dX12_areSplit_13 rfl (lv_at hl 1 rfl) ?_
            refine lv_icmp_ge (tgt := 60) hx hb dX12_areSplit_14 (by decide) (fun c_4 => ?_) (fun c_4 => ?_)
            · -- 14 t
              have fc_4 : o ≤ o2 := nf_le (by omega) (by omega) c_4
              refine lv_iinc (v := nI (o + 1)) (lv' := [(1, .int (nI (o + 1))), (2, .int (nI o2)), (0, .ref hm)]) hx hb dX12_areSplit_60 hl (k := 1) rfl (nI_add o 1) (by decide) rfl ?_
              clear hl
              try clear ls
              intro ls hl
              refine lv_goto (tgt := 2) hx hb dX12_areSplit_63 (by decide) ?_
              exact ih_loop_1 (o + 1) (by omega) (fun a ha b hb => by by_cases q : a = o; (subst q; exact hs8 b (by omega)); exact hs9 a (by omega) b hb) (by omega) H locs ls hP hD hS (lv_sub hl [0, 2] rfl)
            · -- 14 f
              have fc_4 : o2 < o := nf_nle (by omega) (by omega) c_4
              refine lv_aload_n hx hb dX12_areSplit_17 rfl (lv_at hl 2 rfl) ?_
              refine lv_iload_n hx hb dX12_areSplit_18 rfl (lv_at hl 1 rfl) ?_
              refine xi (wr := []) (xV (As := [.int (nI o)]) (rest := []) C (c_X12_isDecided l D cs hm ms mkp mtr mas mso mon mot man mst msm mtb mti mfr mbn mbs mde maa mab mba mbb n k al be km en ea pr nq po th xd sF sN sS ig xa xb f o (by omega)) kX12_165 hP hD [0, 1] rfl (by decide +kernel) 0 rfl rfl rfl ⟨Nat.le_of_ble_eq_true rfl, Nat.le_of_ble_eq_true rfl⟩ rfl hl.1 rfl (Nat.le_of_ble_eq_true rfl) dX12_areSplit_19 ⟨Nat.le_of_ble_eq_true rfl, Nat.le_of_ble_eq_true rfl⟩) hP hD hS hA [0, 1] [] rfl rfl (by decide +kernel) (by decide +kernel) ?_
              clear hP hD hS
              try clear locs
              try clear H
              intro r_5 u_6 H locs hw_r_5 hP hD hS
              have hw_r_5 : PQ (decB f o) r_5 (nI 1) (nI 0) := hw_r_5
              refine W.widen (k := 0) (n := 0) (Nat.le_of_ble_eq_true rfl) (Nat.le_of_ble_eq_true rfl) ?_
              replace hP : va_P D vwCl [(hm, .inr (12, [.ref ms, .ref mkp, .int (nI km), .ref mtr, .int (nI n), .int (nI k), .int (nI al), .int (nI be), .int ea, .int pr, .ref mas, .int nq, .int po, .int (nI en), .ref mso, .ref mon, .ref mot, .ref man, .int th, .int xd, .ref mst, .ref msm, .ref mtb, .ref mti, .ref mfr, .ref mbn, .ref mbs, .ref mde, .int sF, .int sN, .int sS, .int ig, .long xa, .long xb, .ref maa, .ref mab, .ref mba, .ref mbb])), (ms, .inl (cs 0, 288, .inl f))] H := hP
              replace hD : va_D A [(hm, .inr (12, [.ref ms, .ref mkp, .int (nI km), .ref mtr, .int (nI n), .int (nI k), .int (nI al), .int (nI be), .int ea, .int pr, .ref mas, .int nq, .int po, .int (nI en), .ref mso, .ref mon, .ref mot, .ref man, .int th, .int xd, .ref mst, .ref msm, .ref mtb, .ref mti, .ref mfr, .ref mbn, .ref mbs, .ref mde, .int sF, .int sN, .int sS, .int ig, .long xa, .long xb, .ref maa, .ref mab, .ref mba, .ref mbb])), (ms, .inl (cs 0, 288, .inl f))] := hD
              refine lv_if_eq (tgt := 54) hx hb dX12_areSplit_22 (by decide) (fun c_7 => ?_) (fun c_7 => ?_)
              · -- 22 t
                refine lv_iinc (v := nI (o2 + 1)) (lv' := [(2, .int (nI (o2 + 1))), (1, .int (nI o)), (0, .ref hm)]) hx hb dX12_areSplit_54 hl (k := 0) rfl (nI_add o2 1) (by decide) rfl ?_
                clear hl
                try clear ls
                intro ls hl
                refine lv_goto (tgt := 12) hx hb dX12_areSplit_57 (by decide) ?_
                exact ih_loop_3 (o2 + 1) (by omega) (fun b hb => by by_cases q : b = o2; (subst q; exact fun q => absurd q.1 (PQ.no hw_r_5 c_7 (by decide))); exact hs8 b (by omega)) (by omega) H locs ls hP hD hS (lv_sub hl [0, 1, 2] rfl)
              · -- 22 f
                refine lv_aload_n hx hb dX12_areSplit_25 rfl (lv_at hl 2 rfl) ?_
                refine lv_iload_n hx hb dX12_areSplit_26 rfl (lv_at hl 0 rfl) ?_
                refine xi (wr := []) (xV (As := [.int (nI o2)]) (rest := []) C (c_X12_isDecided l D cs hm ms mkp mtr mas mso mon mot man mst msm mtb mti mfr mbn mbs mde maa mab mba mbb n k al be km en ea pr nq po th xd sF sN sS ig xa xb f o2 (by omega)) kX12_165 hP hD [0, 1] rfl (by decide +kernel) 0 rfl rfl rfl ⟨Nat.le_of_ble_eq_true rfl, Nat.le_of_ble_eq_true rfl⟩ rfl hl.1 rfl (Nat.le_of_ble_eq_true rfl) dX12_areSplit_27 ⟨Nat.le_of_ble_eq_true rfl, Nat.le_of_ble_eq_true rfl⟩) hP hD hS hA [0, 1] [] rfl rfl (by decide +kernel) (by decide +kernel) ?_
                clear hP hD hS
                try clear locs
                try clear H
                intro r_8 u_9 H locs hw_r_8 hP hD hS
                have hw_r_8 : PQ (decB f o2) r_8 (nI 1) (nI 0) := hw_r_8
                refine W.widen (k := 0) (n := 0) (Nat.le_of_ble_eq_true rfl) (Nat.le_of_ble_eq_true rfl) ?_
                replace hP : va_P D vwCl [(hm, .inr (12, [.ref ms, .ref mkp, .int (nI km), .ref mtr, .int (nI n), .int (nI k), .int (nI al), .int (nI be), .int ea, .int pr, .ref mas, .int nq, .int po, .int (nI en), .ref mso, .ref mon, .ref mot, .ref man, .int th, .int xd, .ref mst, .ref msm, .ref mtb, .ref mti, .ref mfr, .ref mbn, .ref mbs, .ref mde, .int sF, .int sN, .int sS, .int ig, .long xa, .long xb, .ref maa, .ref mab, .ref mba, .ref mbb])), (ms, .inl (cs 0, 288, .inl f))] H := hP
                replace hD : va_D A [(hm, .inr (12, [.ref ms, .ref mkp, .int (nI km), .ref mtr, .int (nI n), .int (nI k), .int (nI al), .int (nI be), .int ea, .int pr, .ref mas, .int nq, .int po, .int (nI en), .ref mso, .ref mon, .ref mot, .ref man, .int th, .int xd, .ref mst, .ref msm, .ref mtb, .ref mti, .ref mfr, .ref mbn, .ref mbs, .ref mde, .int sF, .int sN, .int sS, .int ig, .long xa, .long xb, .ref maa, .ref mab, .ref mba, .ref mbb])), (ms, .inl (cs 0, 288, .inl f))] := hD
                refine lv_if_eq (tgt := 54) hx hb dX12_areSplit_30 (by decide) (fun c_10 => ?_) (fun c_10 => ?_)
                · -- 30 t
                  refine lv_iinc (v := nI (o2 + 1)) (lv' := [(2, .int (nI (o2 + 1))), (1, .int (nI o)), (0, .ref hm)]) hx hb dX12_areSplit_54 hl (k := 0) rfl (nI_add o2 1) (by decide) rfl ?_
                  clear hl
                  try clear ls
                  intro ls hl
                  refine lv_goto (tgt := 12) hx hb dX12_areSplit_57 (by decide) ?_
                  exact ih_loop_3 (o2 + 1) (by omega) (fun b hb => by by_cases q : b = o2; (subst q; exact fun q => absurd q.2.1 (PQ.no hw_r_8 c_10 (by decide))); exact hs8 b (by omega)) (by omega) H locs ls hP hD hS (lv_sub hl [0, 1, 2] rfl)
                · -- 30 f
                  refine lv_aload_n hx hb dX12_areSplit_33 rfl (lv_at hl 2 rfl) ?_
                  refine xget C hP 0 rfl rfl zuX12 0 (by decide) zw5_213 rfl dX12_areSplit_34 ?_
                  refine lv_iconst (v := nI 0) hx hb dX12_areSplit_37 (by decide) ?_
                  refine lv_iload_n hx hb dX12_areSplit_38 rfl (lv_at hl 1 rfl) ?_
                  refine lv_iadd hx hb dX12_areSplit_39 ?_
                  refine lv_topi (nm_r (e' := nI (0 + o)) (nI_add _ _) ?_)
                  refine xiald C hP 1 rfl (0 + o) rfl (by omega) (by decide) dX12_areSplit_40 ?_
                  refine lv_aload_n hx hb dX12_areSplit_41 rfl (lv_at hl 2 rfl) ?_
                  refine xget C hP 0 rfl rfl zuX12 0 (by decide) zw5_213 rfl dX12_areSplit_42 ?_
                  refine lv_iconst (v := nI 0) hx hb dX12_areSplit_45 (by decide) ?_
                  refine lv_iload_n hx hb dX12_areSplit_46 rfl (lv_at hl 0 rfl) ?_
                  refine lv_iadd hx hb dX12_areSplit_47 ?_
                  refine lv_topi (nm_r (e' := nI (0 + o2)) (nI_add _ _) ?_)
                  refine xiald C hP 1 rfl (0 + o2) rfl (by omega) (by decide) dX12_areSplit_48 ?_
                  refine lv_icmp_eq (tgt := 54) hx hb dX12_areSplit_49 (by decide) (fun c_11 => ?_) (fun c_11 => ?_)
                  · -- 49 t
                    refine lv_iinc (v := nI (o2 + 1)) (lv' := [(2, .int (nI (o2 + 1))), (1, .int (nI o)), (0, .ref hm)]) hx hb dX12_areSplit_54 hl (k := 0) rfl (nI_add o2 1) (by decide) rfl ?_
                    clear hl
                    try clear ls
                    intro ls hl
                    refine lv_goto (tgt := 12) hx hb dX12_areSplit_57 (by decide) ?_
                    exact ih_loop_3 (o2 + 1) (by omega) (fun b hb => by by_cases q : b = o2; (subst q; exact fun q => absurd c_11 q.2.2); exact hs8 b (by omega)) (by omega) H locs ls hP hD hS (lv_sub hl [0, 1, 2] rfl)
                  · -- 49 f
                    refine lv_iconst (v := nI 1) hx hb dX12_areSplit_52 (by decide) ?_
                    exact xreti C () (Or.inl ⟨⟨o, by omega, o2, by omega, PQ.yes hw_r_5 c_7, PQ.yes hw_r_8 c_10, c_11⟩, rfl⟩) hP hD hS (Nat.le_of_ble_eq_true rfl) (Nat.le_of_ble_eq_true rfl) (by decide) dX12_areSplit_53
        exact loop_3 _ 0 (by omega) (fun b hb => absurd hb (Nat.not_lt_zero b)) (Nat.lt_succ_self _) H locs ls hP hD hS (lv_sub hl [0, 1, 2] rfl)
  exact loop_1 _ 0 (by omega) (fun a ha => absurd ha (Nat.not_lt_zero a)) (Nat.lt_succ_self _) H locs ls hP hD hS (lv_sub hl [0, 1] rfl)

set_option maxHeartbeats 4000000 in
set_option maxRecDepth 100000 in
theorem c_X12_areAgreed (l : Launch) (D : va_G) (cs : Nat → ClassId) (hm ms mkp mtr mas mso mon mot man mst msm mtb mti mfr mbn mbs mde maa mab mba mbb : Nat) (n k al be km en : Nat) (ea pr nq po th xd sF sN sS ig : Int32) (xa xb : Int64) (f : Nat → Int32) (hn : 2 ≤ n ∧ n ≤ 8) : xMet l D cs yX12_areAgreed cX12_areAgreed 3 (some .boolean) ({ frames := 1, cells := 0, slots := 0, locals := 21 } : Room) [.ref hm] [(hm, .inr (12, [.ref ms, .ref mkp, .int (nI km), .ref mtr, .int (nI n), .int (nI k), .int (nI al), .int (nI be), .int ea, .int pr, .ref mas, .int nq, .int po, .int (nI en), .ref mso, .ref mon, .ref mot, .ref man, .int th, .int xd, .ref mst, .ref msm, .ref mtb, .ref mti, .ref mfr, .ref mbn, .ref mbs, .ref mde, .int sF, .int sN, .int sS, .int ig, .long xa, .long xb, .ref maa, .ref mab, .ref mba, .ref mbb])), (ms, .inl (cs 0, 288, .inl f))] (xQi D (fun (r : Int32) (_u : Unit) => (r = nI 0 ∨ r = nI 1)) (fun (_u : Unit) => [(hm, .inr (12, [.ref ms, .ref mkp, .int (nI km), .ref mtr, .int (nI n), .int (nI k), .int (nI al), .int (nI be), .int ea, .int pr, .ref mas, .int nq, .int po, .int (nI en), .ref mso, .ref mon, .ref mot, .ref man, .int th, .int xd, .ref mst, .ref msm, .ref mtb, .ref mti, .ref mfr, .ref mbn, .ref mbs, .ref mde, .int sF, .int sN, .int sS, .int ig, .long xa, .long xb, .ref maa, .ref mab, .ref mba, .ref mbb])), (ms, .inl (cs 0, 288, .inl f))])) := by
  refine xMet.intro (by decide) (Nat.le_of_ble_eq_true rfl) ?_
  intro p e s m args below meth c A ls C hP hD hS hl
  have hx := C.1
  have hb := C.2.1
  have hz := C.2.2.2.2.1
  have hown := C.2.2.2.1
  have hA := C.2.2.2.2.2.2.2.2.2
  have hAO := C.2.2.2.2.2.2.2.2.1.2.2
  replace hl : lv_has ls 3 [(0, .ref hm)] := hl
  obtain ⟨H, hH⟩ : ∃ H, H = s.heap := ⟨_, rfl⟩
  replace hP : va_P D vwCl [(hm, .inr (12, [.ref ms, .ref mkp, .int (nI km), .ref mtr, .int (nI n), .int (nI k), .int (nI al), .int (nI be), .int ea, .int pr, .ref mas, .int nq, .int po, .int (nI en), .ref mso, .ref mon, .ref mot, .ref man, .int th, .int xd, .ref mst, .ref msm, .ref mtb, .ref mti, .ref mfr, .ref mbn, .ref mbs, .ref mde, .int sF, .int sN, .int sS, .int ig, .long xa, .long xb, .ref maa, .ref mab, .ref mba, .ref mbb])), (ms, .inl (cs 0, 288, .inl f))] H := by rw [hH]; exact hP
  replace hS : va_S A s.heap H [] := by rw [hH]; exact hS
  obtain ⟨locs, hlocs⟩ : ∃ z : List Loc, z = [] := ⟨_, rfl⟩
  rw [← hlocs] at hS
  suffices hW : W p l e ({ frames := 1, cells := 0, slots := 0, locals := 21 } : Room) s m args below meth c H locs 0 0 (MQ below ((xQi D (fun (r : Int32) (_u : Unit) => (r = nI 0 ∨ r = nI 1)) (fun (_u : Unit) => [(hm, .inr (12, [.ref ms, .ref mkp, .int (nI km), .ref mtr, .int (nI n), .int (nI k), .int (nI al), .int (nI be), .int ea, .int pr, .ref mas, .int nq, .int po, .int (nI en), .ref mso, .ref mon, .ref mot, .ref man, .int th, .int xd, .ref mst, .ref msm, .ref mtb, .ref mti, .ref mfr, .ref mbn, .ref mbs, .ref mde, .int sF, .int sN, .int sS, .int ig, .long xa, .long xb, .ref maa, .ref mab, .ref mba, .ref mbb])), (ms, .inl (cs 0, 288, .inl f))])) A) args s 0 0 A) (F0 m 0 ls []) by rw [hlocs, hH] at hW; exact hW
  clear hH hlocs
  refine lv_iconst (v := (-1)) hx hb dX12_areAgreed_0 (by decide) ?_
  refine lv_istore_n (lv' := [(1, .int (-1)), (0, .ref hm)]) hx hb dX12_areAgreed_1 rfl hl (by decide) rfl ?_
  clear hl
  try clear ls
  intro ls hl
  refine lv_iconst (v := nI 0) hx hb dX12_areAgreed_2 (by decide) ?_
  refine lv_istore_n (lv' := [(2, .int (nI 0)), (1, .int (-1)), (0, .ref hm)]) hx hb dX12_areAgreed_3 rfl hl (by decide) rfl ?_
  clear hl
  try clear ls
  intro ls hl
  have loop_1 : ∀ (n_loop_1 : Nat) (o : Nat) (c9 : Int32), (o ≤ n) → n - o < n_loop_1 → ∀ (H : Heap) (locs : List Loc) (ls : Array Slot), va_P D vwCl [(hm, .inr (12, [.ref ms, .ref mkp, .int (nI km), .ref mtr, .int (nI n), .int (nI k), .int (nI al), .int (nI be), .int ea, .int pr, .ref mas, .int nq, .int po, .int (nI en), .ref mso, .ref mon, .ref mot, .ref man, .int th, .int xd, .ref mst, .ref msm, .ref mtb, .ref mti, .ref mfr, .ref mbn, .ref mbs, .ref mde, .int sF, .int sN, .int sS, .int ig, .long xa, .long xb, .ref maa, .ref mab, .ref mba, .ref mbb])), (ms, .inl (cs 0, 288, .inl f))] H → va_D A [(hm, .inr (12, [.ref ms, .ref mkp, .int (nI km), .ref mtr, .int (nI n), .int (nI k), .int (nI al), .int (nI be), .int ea, .int pr, .ref mas, .int nq, .int po, .int (nI en), .ref mso, .ref mon, .ref mot, .ref man, .int th, .int xd, .ref mst, .ref msm, .ref mtb, .ref mti, .ref mfr, .ref mbn, .ref mbs, .ref mde, .int sF, .int sN, .int sS, .int ig, .long xa, .long xb, .ref maa, .ref mab, .ref mba, .ref mbb])), (ms, .inl (cs 0, 288, .inl f))] → va_S A s.heap H locs → lv_has ls 3 [(2, .int (nI o)), (1, .int c9), (0, .ref hm)] → W p l e ({ frames := 1, cells := 0, slots := 0, locals := 21 } : Room) s m args below meth c H locs 0 0 (MQ below ((xQi D (fun (r : Int32) (_u : Unit) => (r = nI 0 ∨ r = nI 1)) (fun (_u : Unit) => [(hm, .inr (12, [.ref ms, .ref mkp, .int (nI km), .ref mtr, .int (nI n), .int (nI k), .int (nI al), .int (nI be), .int ea, .int pr, .ref mas, .int nq, .int po, .int (nI en), .ref mso, .ref mon, .ref mot, .ref man, .int th, .int xd, .ref mst, .ref msm, .ref mtb, .ref mti, .ref mfr, .ref mbn, .ref mbs, .ref mde, .int sF, .int sN, .int sS, .int ig, .long xa, .long xb, .ref maa, .ref mab, .ref mba, .ref mbb])), (ms, .inl (cs 0, 288, .inl f))])) A) args s 0 0 A) (F0 m 4 ls []) := by
    intro n_loop_1
    induction n_loop_1 with
    | zero => intro o c9 h_o hlt H locs ls hP hD hS hl; exact absurd hlt (Nat.not_lt_zero _)
    | succ n_loop_1 ih_loop_1 =>
      intro o c9 h_o hlt_loop_1 H locs ls hP hD hS hl
      refine lv_iload_n hx hb dX12_areAgreed_4 rfl (lv_at hl 0 rfl) ?_
      refine lv_aload_n hx hb dX12_areAgreed_5 rfl (lv_at hl 2 rfl) ?_
      refine xget C hP 0 rfl rfl zuX12 4 (by decide) zw5_217 rfl dX12_areAgreed_6 ?_
      refine lv_icmp_ge (tgt := 68) hx hb dX12_areAgreed_9 (by decide) (fun c_2 => ?_) (fun c_2 => ?_)
      · -- 9 t
        have fc_2 : n ≤ o := nf_le (by omega) (by omega) c_2
        refine lv_iload_n hx hb dX12_areAgreed_68 rfl (lv_at hl 1 rfl) ?_
        refine lv_if_lt (tgt := 76) hx hb dX12_areAgreed_69 (by decide) (fun c_3 => ?_) (fun c_3 => ?_)
        · -- 69 t
          refine lv_iconst (v := nI 0) hx hb dX12_areAgreed_76 (by decide) ?_
          exact xreti C () (by decide) hP hD hS (Nat.le_of_ble_eq_true rfl) (Nat.le_of_ble_eq_true rfl) (by decide) dX12_areAgreed_77
        · -- 69 f
          refine lv_iconst (v := nI 1) hx hb dX12_areAgreed_72 (by decide) ?_
          refine lv_goto (tgt := 77) hx hb dX12_areAgreed_73 (by decide) ?_
          exact xreti C () (by decide) hP hD hS (Nat.le_of_ble_eq_true rfl) (Nat.le_of_ble_eq_true rfl) (by decide) dX12_areAgreed_77
      · -- 9 f
        have fc_2 : o < n := nf_nle (by omega) (by omega) c_2
        refine lv_aload_n hx hb dX12_areAgreed_12 rfl (lv_at hl 2 rfl) ?_
        refine xget C hP 0 rfl rfl zuX12 0 (by decide) zw5_213 rfl dX12_areAgreed_13 ?_
        refine lv_bipush (v := nI 48) hx hb dX12_areAgreed_16 (by decide) ?_
        refine lv_iload_n hx hb dX12_areAgreed_18 rfl (lv_at hl 0 rfl) ?_
        refine lv_iadd hx hb dX12_areAgreed_19 ?_
        refine lv_topi (nm_r (e' := nI (48 + o)) (nI_add _ _) ?_)
        refine xiald C hP 1 rfl (48 + o) rfl (by omega) (by decide) dX12_areAgreed_20 ?_
        refine lv_if_eq (tgt := 27) hx hb dX12_areAgreed_21 (by decide) (fun c_4 => ?_) (fun c_4 => ?_)
        · -- 21 t
          refine lv_aload_n hx hb dX12_areAgreed_27 rfl (lv_at hl 2 rfl) ?_
          refine lv_iload_n hx hb dX12_areAgreed_28 rfl (lv_at hl 0 rfl) ?_
          refine xi (wr := []) (xV (As := [.int (nI o)]) (rest := []) C (c_X12_isDecided l D cs hm ms mkp mtr mas mso mon mot man mst msm mtb mti mfr mbn mbs mde maa mab mba mbb n k al be km en ea pr nq po th xd sF sN sS ig xa xb f o (by omega)) kX12_165 hP hD [0, 1] rfl (by decide +kernel) 0 rfl rfl rfl ⟨Nat.le_of_ble_eq_true rfl, Nat.le_of_ble_eq_true rfl⟩ rfl hl.1 rfl (Nat.le_of_ble_eq_true rfl) dX12_areAgreed_29 ⟨Nat.le_of_ble_eq_true rfl, Nat.le_of_ble_eq_true rfl⟩) hP hD hS hA [0, 1] [] rfl rfl (by decide +kernel) (by decide +kernel) ?_
          clear hP hD hS
          try clear locs
          try clear H
          intro r_5 u_6 H locs hw_r_5 hP hD hS
          have hw_r_5 : PQ (decB f o) r_5 (nI 1) (nI 0) := hw_r_5
          refine W.widen (k := 0) (n := 0) (Nat.le_of_ble_eq_true rfl) (Nat.le_of_ble_eq_true rfl) ?_
          replace hP : va_P D vwCl [(hm, .inr (12, [.ref ms, .ref mkp, .int (nI km), .ref mtr, .int (nI n), .int (nI k), .int (nI al), .int (nI be), .int ea, .int pr, .ref mas, .int nq, .int po, .int (nI en), .ref mso, .ref mon, .ref mot, .ref man, .int th, .int xd, .ref mst, .ref msm, .ref mtb, .ref mti, .ref mfr, .ref mbn, .ref mbs, .ref mde, .int sF, .int sN, .int sS, .int ig, .long xa, .long xb, .ref maa, .ref mab, .ref mba, .ref mbb])), (ms, .inl (cs 0, 288, .inl f))] H := hP
          replace hD : va_D A [(hm, .inr (12, [.ref ms, .ref mkp, .int (nI km), .ref mtr, .int (nI n), .int (nI k), .int (nI al), .int (nI be), .int ea, .int pr, .ref mas, .int nq, .int po, .int (nI en), .ref mso, .ref mon, .ref mot, .ref man, .int th, .int xd, .ref mst, .ref msm, .ref mtb, .ref mti, .ref mfr, .ref mbn, .ref mbs, .ref mde, .int sF, .int sN, .int sS, .int ig, .long xa, .long xb, .ref maa, .ref mab, .ref mba, .ref mbb])), (ms, .inl (cs 0, 288, .inl f))] := hD
          refine lv_if_eq (tgt := 51) hx hb dX12_areAgreed_32 (by decide) (fun c_7 => ?_) (fun c_7 => ?_)
          · -- 32 t
            refine lv_iconst (v := nI 0) hx hb dX12_areAgreed_51 (by decide) ?_
            exact xreti C () (by decide) hP hD hS (Nat.le_of_ble_eq_true rfl) (Nat.le_of_ble_eq_true rfl) (by decide) dX12_areAgreed_52
          · -- 32 f
            refine lv_iload_n hx hb dX12_areAgreed_35 rfl (lv_at hl 1 rfl) ?_
            refine lv_if_lt (tgt := 53) hx hb dX12_areAgreed_36 (by decide) (fun c_8 => ?_) (fun c_8 => ?_)
            · -- 36 t
              refine lv_aload_n hx hb dX12_areAgreed_53 rfl (lv_at hl 2 rfl) ?_
              refine xget C hP 0 rfl rfl zuX12 0 (by decide) zw5_213 rfl dX12_areAgreed_54 ?_
              refine lv_iconst (v := nI 0) hx hb dX12_areAgreed_57 (by decide) ?_
              refine lv_iload_n hx hb dX12_areAgreed_58 rfl (lv_at hl 0 rfl) ?_
              refine lv_iadd hx hb dX12_areAgreed_59 ?_
              refine lv_topi (nm_r (e' := nI (0 + o)) (nI_add _ _) ?_)
              refine xiald C hP 1 rfl (0 + o) rfl (by omega) (by decide) dX12_areAgreed_60 ?_
              refine lv_istore_n (lv' := [(1, .int (f (0 + o))), (2, .int (nI o)), (0, .ref hm)]) hx hb dX12_areAgreed_61 rfl hl (by decide) rfl ?_
              clear hl
              try clear ls
              intro ls hl
              refine lv_iinc (v := nI (o + 1)) (lv' := [(2, .int (nI (o + 1))), (1, .int (f (0 + o))), (0, .ref hm)]) hx hb dX12_areAgreed_62 hl (k := 1) rfl (nI_add o 1) (by decide) rfl ?_
              clear hl
              try clear ls
              intro ls hl
              refine lv_goto (tgt := 4) hx hb dX12_areAgreed_65 (by decide) ?_
              exact ih_loop_1 (o + 1) (f (0 + o)) (by omega) (by omega) H locs ls hP hD hS (lv_sub hl [0, 1, 2] rfl)
            · -- 36 f
              refine lv_aload_n hx hb dX12_areAgreed_39 rfl (lv_at hl 2 rfl) ?_
              refine xget C hP 0 rfl rfl zuX12 0 (by decide) zw5_213 rfl dX12_areAgreed_40 ?_
              refine lv_iconst (v := nI 0) hx hb dX12_areAgreed_43 (by decide) ?_
              refine lv_iload_n hx hb dX12_areAgreed_44 rfl (lv_at hl 0 rfl) ?_
              refine lv_iadd hx hb dX12_areAgreed_45 ?_
              refine lv_topi (nm_r (e' := nI (0 + o)) (nI_add _ _) ?_)
              refine xiald C hP 1 rfl (0 + o) rfl (by omega) (by decide) dX12_areAgreed_46 ?_
              refine lv_iload_n hx hb dX12_areAgreed_47 rfl (lv_at hl 1 rfl) ?_
              refine lv_icmp_eq (tgt := 53) hx hb dX12_areAgreed_48 (by decide) (fun c_9 => ?_) (fun c_9 => ?_)
              · -- 48 t
                refine lv_aload_n hx hb dX12_areAgreed_53 rfl (lv_at hl 2 rfl) ?_
                refine xget C hP 0 rfl rfl zuX12 0 (by decide) zw5_213 rfl dX12_areAgreed_54 ?_
                refine lv_iconst (v := nI 0) hx hb dX12_areAgreed_57 (by decide) ?_
                refine lv_iload_n hx hb dX12_areAgreed_58 rfl (lv_at hl 0 rfl) ?_
                refine lv_iadd hx hb dX12_areAgreed_59 ?_
                refine lv_topi (nm_r (e' := nI (0 + o)) (nI_add _ _) ?_)
                refine xiald C hP 1 rfl (0 + o) rfl (by omega) (by decide) dX12_areAgreed_60 ?_
                refine lv_istore_n (lv' := [(1, .int (f (0 + o))), (2, .int (nI o)), (0, .ref hm)]) hx hb dX12_areAgreed_61 rfl hl (by decide) rfl ?_
                clear hl
                try clear ls
                intro ls hl
                refine lv_iinc (v := nI (o + 1)) (lv' := [(2, .int (nI (o + 1))), (1, .int (f (0 + o))), (0, .ref hm)]) hx hb dX12_areAgreed_62 hl (k := 1) rfl (nI_add o 1) (by decide) rfl ?_
                clear hl
                try clear ls
                intro ls hl
                refine lv_goto (tgt := 4) hx hb dX12_areAgreed_65 (by decide) ?_
                exact ih_loop_1 (o + 1) (f (0 + o)) (by omega) (by omega) H locs ls hP hD hS (lv_sub hl [0, 1, 2] rfl)
              · -- 48 f
                refine lv_iconst (v := nI 0) hx hb dX12_areAgreed_51 (by decide) ?_
                exact xreti C () (by decide) hP hD hS (Nat.le_of_ble_eq_true rfl) (Nat.le_of_ble_eq_true rfl) (by decide) dX12_areAgreed_52
        · -- 21 f
          refine lv_goto (tgt := 62) hx hb dX12_areAgreed_24 (by decide) ?_
          refine lv_iinc (v := nI (o + 1)) (lv' := [(2, .int (nI (o + 1))), (1, .int c9), (0, .ref hm)]) hx hb dX12_areAgreed_62 hl (k := 0) rfl (nI_add o 1) (by decide) rfl ?_
          clear hl
          try clear ls
          intro ls hl
          refine lv_goto (tgt := 4) hx hb dX12_areAgreed_65 (by decide) ?_
          exact ih_loop_1 (o + 1) c9 (by omega) (by omega) H locs ls hP hD hS (lv_sub hl [0, 1, 2] rfl)
  exact loop_1 _ 0 (-1) (by omega) (Nat.lt_succ_self _) H locs ls hP hD hS (lv_sub hl [0, 1, 2] rfl)

set_option maxHeartbeats 4000000 in
set_option maxRecDepth 100000 in
theorem c_X12_coloured (l : Launch) (D : va_G) (cs : Nat → ClassId) (hm ms mkp mtr mas mso mon mot man mst msm mtb mti mfr mbn mbs mde maa mab mba mbb : Nat) (n k al be km en : Nat) (ea pr nq po th xd sF sN sS ig : Int32) (xa xb : Int64) (f : Nat → Int32) (hn : 2 ≤ n ∧ n ≤ 8) : xMet l D cs yX12_coloured cX12_coloured 3 (some .int) ({ frames := 0, cells := 0, slots := 0, locals := 0 } : Room) [.ref hm] [(hm, .inr (12, [.ref ms, .ref mkp, .int (nI km), .ref mtr, .int (nI n), .int (nI k), .int (nI al), .int (nI be), .int ea, .int pr, .ref mas, .int nq, .int po, .int (nI en), .ref mso, .ref mon, .ref mot, .ref man, .int th, .int xd, .ref mst, .ref msm, .ref mtb, .ref mti, .ref mfr, .ref mbn, .ref mbs, .ref mde, .int sF, .int sN, .int sS, .int ig, .long xa, .long xb, .ref maa, .ref mab, .ref mba, .ref mbb])), (ms, .inl (cs 0, 288, .inl f))] (xQi D (fun (r : Int32) (_u : Unit) => True) (fun (_u : Unit) => [(hm, .inr (12, [.ref ms, .ref mkp, .int (nI km), .ref mtr, .int (nI n), .int (nI k), .int (nI al), .int (nI be), .int ea, .int pr, .ref mas, .int nq, .int po, .int (nI en), .ref mso, .ref mon, .ref mot, .ref man, .int th, .int xd, .ref mst, .ref msm, .ref mtb, .ref mti, .ref mfr, .ref mbn, .ref mbs, .ref mde, .int sF, .int sN, .int sS, .int ig, .long xa, .long xb, .ref maa, .ref mab, .ref mba, .ref mbb])), (ms, .inl (cs 0, 288, .inl f))])) := by
  refine xMet.intro (by decide) (Nat.le_of_ble_eq_true rfl) ?_
  intro p e s m args below meth c A ls C hP hD hS hl
  have hx := C.1
  have hb := C.2.1
  have hz := C.2.2.2.2.1
  have hown := C.2.2.2.1
  have hA := C.2.2.2.2.2.2.2.2.2
  have hAO := C.2.2.2.2.2.2.2.2.1.2.2
  replace hl : lv_has ls 3 [(0, .ref hm)] := hl
  obtain ⟨H, hH⟩ : ∃ H, H = s.heap := ⟨_, rfl⟩
  replace hP : va_P D vwCl [(hm, .inr (12, [.ref ms, .ref mkp, .int (nI km), .ref mtr, .int (nI n), .int (nI k), .int (nI al), .int (nI be), .int ea, .int pr, .ref mas, .int nq, .int po, .int (nI en), .ref mso, .ref mon, .ref mot, .ref man, .int th, .int xd, .ref mst, .ref msm, .ref mtb, .ref mti, .ref mfr, .ref mbn, .ref mbs, .ref mde, .int sF, .int sN, .int sS, .int ig, .long xa, .long xb, .ref maa, .ref mab, .ref mba, .ref mbb])), (ms, .inl (cs 0, 288, .inl f))] H := by rw [hH]; exact hP
  replace hS : va_S A s.heap H [] := by rw [hH]; exact hS
  obtain ⟨locs, hlocs⟩ : ∃ z : List Loc, z = [] := ⟨_, rfl⟩
  rw [← hlocs] at hS
  suffices hW : W p l e ({ frames := 0, cells := 0, slots := 0, locals := 0 } : Room) s m args below meth c H locs 0 0 (MQ below ((xQi D (fun (r : Int32) (_u : Unit) => True) (fun (_u : Unit) => [(hm, .inr (12, [.ref ms, .ref mkp, .int (nI km), .ref mtr, .int (nI n), .int (nI k), .int (nI al), .int (nI be), .int ea, .int pr, .ref mas, .int nq, .int po, .int (nI en), .ref mso, .ref mon, .ref mot, .ref man, .int th, .int xd, .ref mst, .ref msm, .ref mtb, .ref mti, .ref mfr, .ref mbn, .ref mbs, .ref mde, .int sF, .int sN, .int sS, .int ig, .long xa, .long xb, .ref maa, .ref mab, .ref mba, .ref mbb])), (ms, .inl (cs 0, 288, .inl f))])) A) args s 0 0 A) (F0 m 0 ls []) by rw [hlocs, hH] at hW; exact hW
  clear hH hlocs
  refine lv_iconst (v := nI 0) hx hb dX12_coloured_0 (by decide) ?_
  refine lv_istore_n (lv' := [(1, .int (nI 0)), (0, .ref hm)]) hx hb dX12_coloured_1 rfl hl (by decide) rfl ?_
  clear hl
  try clear ls
  intro ls hl
  refine lv_iconst (v := nI 0) hx hb dX12_coloured_2 (by decide) ?_
  refine lv_istore_n (lv' := [(2, .int (nI 0)), (1, .int (nI 0)), (0, .ref hm)]) hx hb dX12_coloured_3 rfl hl (by decide) rfl ?_
  clear hl
  try clear ls
  intro ls hl
  have loop_1 : ∀ (n_loop_1 : Nat) (o : Nat) (c9 : Int32), (o ≤ n) → n - o < n_loop_1 → ∀ (H : Heap) (locs : List Loc) (ls : Array Slot), va_P D vwCl [(hm, .inr (12, [.ref ms, .ref mkp, .int (nI km), .ref mtr, .int (nI n), .int (nI k), .int (nI al), .int (nI be), .int ea, .int pr, .ref mas, .int nq, .int po, .int (nI en), .ref mso, .ref mon, .ref mot, .ref man, .int th, .int xd, .ref mst, .ref msm, .ref mtb, .ref mti, .ref mfr, .ref mbn, .ref mbs, .ref mde, .int sF, .int sN, .int sS, .int ig, .long xa, .long xb, .ref maa, .ref mab, .ref mba, .ref mbb])), (ms, .inl (cs 0, 288, .inl f))] H → va_D A [(hm, .inr (12, [.ref ms, .ref mkp, .int (nI km), .ref mtr, .int (nI n), .int (nI k), .int (nI al), .int (nI be), .int ea, .int pr, .ref mas, .int nq, .int po, .int (nI en), .ref mso, .ref mon, .ref mot, .ref man, .int th, .int xd, .ref mst, .ref msm, .ref mtb, .ref mti, .ref mfr, .ref mbn, .ref mbs, .ref mde, .int sF, .int sN, .int sS, .int ig, .long xa, .long xb, .ref maa, .ref mab, .ref mba, .ref mbb])), (ms, .inl (cs 0, 288, .inl f))] → va_S A s.heap H locs → lv_has ls 3 [(2, .int (nI o)), (1, .int c9), (0, .ref hm)] → W p l e ({ frames := 0, cells := 0, slots := 0, locals := 0 } : Room) s m args below meth c H locs 0 0 (MQ below ((xQi D (fun (r : Int32) (_u : Unit) => True) (fun (_u : Unit) => [(hm, .inr (12, [.ref ms, .ref mkp, .int (nI km), .ref mtr, .int (nI n), .int (nI k), .int (nI al), .int (nI be), .int ea, .int pr, .ref mas, .int nq, .int po, .int (nI en), .ref mso, .ref mon, .ref mot, .ref man, .int th, .int xd, .ref mst, .ref msm, .ref mtb, .ref mti, .ref mfr, .ref mbn, .ref mbs, .ref mde, .int sF, .int sN, .int sS, .int ig, .long xa, .long xb, .ref maa, .ref mab, .ref mba, .ref mbb])), (ms, .inl (cs 0, 288, .inl f))])) A) args s 0 0 A) (F0 m 4 ls []) := by
    intro n_loop_1
    induction n_loop_1 with
    | zero => intro o c9 h_o hlt H locs ls hP hD hS hl; exact absurd hlt (Nat.not_lt_zero _)
    | succ n_loop_1 ih_loop_1 =>
      intro o c9 h_o hlt_loop_1 H locs ls hP hD hS hl
      refine lv_iload_n hx hb dX12_coloured_4 rfl (lv_at hl 0 rfl) ?_
      refine lv_aload_n hx hb dX12_coloured_5 rfl (lv_at hl 2 rfl) ?_
      refine xget C hP 0 rfl rfl zuX12 4 (by decide) zw5_217 rfl dX12_coloured_6 ?_
      refine lv_icmp_ge (tgt := 48) hx hb dX12_coloured_9 (by decide) (fun c_2 => ?_) (fun c_2 => ?_)
      · -- 9 t
        have fc_2 : n ≤ o := nf_le (by omega) (by omega) c_2
        refine lv_iload_n hx hb dX12_coloured_48 rfl (lv_at hl 1 rfl) ?_
        exact xreti C () trivial hP hD hS (Nat.le_of_ble_eq_true rfl) (Nat.le_of_ble_eq_true rfl) rfl dX12_coloured_49
      · -- 9 f
        have fc_2 : o < n := nf_nle (by omega) (by omega) c_2
        refine lv_aload_n hx hb dX12_coloured_12 rfl (lv_at hl 2 rfl) ?_
        refine xget C hP 0 rfl rfl zuX12 0 (by decide) zw5_213 rfl dX12_coloured_13 ?_
        refine lv_bipush (v := nI 48) hx hb dX12_coloured_16 (by decide) ?_
        refine lv_iload_n hx hb dX12_coloured_18 rfl (lv_at hl 0 rfl) ?_
        refine lv_iadd hx hb dX12_coloured_19 ?_
        refine lv_topi (nm_r (e' := nI (48 + o)) (nI_add _ _) ?_)
        refine xiald C hP 1 rfl (48 + o) rfl (by omega) (by decide) dX12_coloured_20 ?_
        refine lv_if_ne (tgt := 42) hx hb dX12_coloured_21 (by decide) (fun c_3 => ?_) (fun c_3 => ?_)
        · -- 21 t
          refine lv_iinc (v := nI (o + 1)) (lv' := [(2, .int (nI (o + 1))), (1, .int c9), (0, .ref hm)]) hx hb dX12_coloured_42 hl (k := 0) rfl (nI_add o 1) (by decide) rfl ?_
          clear hl
          try clear ls
          intro ls hl
          refine lv_goto (tgt := 4) hx hb dX12_coloured_45 (by decide) ?_
          exact ih_loop_1 (o + 1) c9 (by omega) (by omega) H locs ls hP hD hS (lv_sub hl [0, 1, 2] rfl)
        · -- 21 f
          refine lv_aload_n hx hb dX12_coloured_24 rfl (lv_at hl 2 rfl) ?_
          refine xget C hP 0 rfl rfl zuX12 0 (by decide) zw5_213 rfl dX12_coloured_25 ?_
          refine lv_iconst (v := nI 0) hx hb dX12_coloured_28 (by decide) ?_
          refine lv_iload_n hx hb dX12_coloured_29 rfl (lv_at hl 0 rfl) ?_
          refine lv_iadd hx hb dX12_coloured_30 ?_
          refine lv_topi (nm_r (e' := nI (0 + o)) (nI_add _ _) ?_)
          refine xiald C hP 1 rfl (0 + o) rfl (by omega) (by decide) dX12_coloured_31 ?_
          refine lv_iconst (v := nI 1) hx hb dX12_coloured_32 (by decide) ?_
          refine lv_icmp_ne (tgt := 42) hx hb dX12_coloured_33 (by decide) (fun c_4 => ?_) (fun c_4 => ?_)
          · -- 33 t
            refine lv_iinc (v := nI (o + 1)) (lv' := [(2, .int (nI (o + 1))), (1, .int c9), (0, .ref hm)]) hx hb dX12_coloured_42 hl (k := 0) rfl (nI_add o 1) (by decide) rfl ?_
            clear hl
            try clear ls
            intro ls hl
            refine lv_goto (tgt := 4) hx hb dX12_coloured_45 (by decide) ?_
            exact ih_loop_1 (o + 1) c9 (by omega) (by omega) H locs ls hP hD hS (lv_sub hl [0, 1, 2] rfl)
          · -- 33 f
            refine lv_iload_n hx hb dX12_coloured_36 rfl (lv_at hl 1 rfl) ?_
            refine lv_iconst (v := nI 1) hx hb dX12_coloured_37 (by decide) ?_
            refine lv_iload_n hx hb dX12_coloured_38 rfl (lv_at hl 0 rfl) ?_
            refine lv_ishl hx hb dX12_coloured_39 ?_
            refine lv_ior hx hb dX12_coloured_40 ?_
            refine lv_istore_n (lv' := [(1, .int (c9 ||| ((nI 1) <<< ((nI o) &&& 31)))), (2, .int (nI o)), (0, .ref hm)]) hx hb dX12_coloured_41 rfl hl (by decide) rfl ?_
            clear hl
            try clear ls
            intro ls hl
            refine lv_iinc (v := nI (o + 1)) (lv' := [(2, .int (nI (o + 1))), (1, .int (c9 ||| ((nI 1) <<< ((nI o) &&& 31)))), (0, .ref hm)]) hx hb dX12_coloured_42 hl (k := 1) rfl (nI_add o 1) (by decide) rfl ?_
            clear hl
            try clear ls
            intro ls hl
            refine lv_goto (tgt := 4) hx hb dX12_coloured_45 (by decide) ?_
            exact ih_loop_1 (o + 1) (c9 ||| ((nI 1) <<< ((nI o) &&& 31))) (by omega) (by omega) H locs ls hP hD hS (lv_sub hl [0, 1, 2] rfl)
  exact loop_1 _ 0 (nI 0) (by omega) (Nat.lt_succ_self _) H locs ls hP hD hS (lv_sub hl [0, 1, 2] rfl)

set_option maxHeartbeats 4000000 in
set_option maxRecDepth 100000 in
theorem c_X12_slot (l : Launch) (D : va_G) (cs : Nat → ClassId) (hm ms mkp mtr mas mso mon mot man mst msm mtb mti mfr mbn mbs mde maa mab mba mbb : Nat) (n k al be km en : Nat) (ea pr nq po th xd sF sN sS ig : Int32) (xa xb : Int64) (f : Nat → Int32) : xMet l D cs yX12_slot cX12_slot 3 (some .int) ({ frames := 0, cells := 0, slots := 0, locals := 0 } : Room) [.ref hm] [(hm, .inr (12, [.ref ms, .ref mkp, .int (nI km), .ref mtr, .int (nI n), .int (nI k), .int (nI al), .int (nI be), .int ea, .int pr, .ref mas, .int nq, .int po, .int (nI en), .ref mso, .ref mon, .ref mot, .ref man, .int th, .int xd, .ref mst, .ref msm, .ref mtb, .ref mti, .ref mfr, .ref mbn, .ref mbs, .ref mde, .int sF, .int sN, .int sS, .int ig, .long xa, .long xb, .ref maa, .ref mab, .ref mba, .ref mbb])), (ms, .inl (cs 0, 288, .inl f))] (xQi D (fun (r : Int32) (_u : Unit) => ∃ v, v < 8192 ∧ r = nI v) (fun (_u : Unit) => [(hm, .inr (12, [.ref ms, .ref mkp, .int (nI km), .ref mtr, .int (nI n), .int (nI k), .int (nI al), .int (nI be), .int ea, .int pr, .ref mas, .int nq, .int po, .int (nI en), .ref mso, .ref mon, .ref mot, .ref man, .int th, .int xd, .ref mst, .ref msm, .ref mtb, .ref mti, .ref mfr, .ref mbn, .ref mbs, .ref mde, .int sF, .int sN, .int sS, .int ig, .long xa, .long xb, .ref maa, .ref mab, .ref mba, .ref mbb])), (ms, .inl (cs 0, 288, .inl f))])) := by
  refine xMet.intro (by decide) (Nat.le_of_ble_eq_true rfl) ?_
  intro p e s m args below meth c A ls C hP hD hS hl
  have hx := C.1
  have hb := C.2.1
  have hz := C.2.2.2.2.1
  have hown := C.2.2.2.1
  have hA := C.2.2.2.2.2.2.2.2.2
  have hAO := C.2.2.2.2.2.2.2.2.1.2.2
  replace hl : lv_has ls 3 [(0, .ref hm)] := hl
  obtain ⟨H, hH⟩ : ∃ H, H = s.heap := ⟨_, rfl⟩
  replace hP : va_P D vwCl [(hm, .inr (12, [.ref ms, .ref mkp, .int (nI km), .ref mtr, .int (nI n), .int (nI k), .int (nI al), .int (nI be), .int ea, .int pr, .ref mas, .int nq, .int po, .int (nI en), .ref mso, .ref mon, .ref mot, .ref man, .int th, .int xd, .ref mst, .ref msm, .ref mtb, .ref mti, .ref mfr, .ref mbn, .ref mbs, .ref mde, .int sF, .int sN, .int sS, .int ig, .long xa, .long xb, .ref maa, .ref mab, .ref mba, .ref mbb])), (ms, .inl (cs 0, 288, .inl f))] H := by rw [hH]; exact hP
  replace hS : va_S A s.heap H [] := by rw [hH]; exact hS
  obtain ⟨locs, hlocs⟩ : ∃ z : List Loc, z = [] := ⟨_, rfl⟩
  rw [← hlocs] at hS
  suffices hW : W p l e ({ frames := 0, cells := 0, slots := 0, locals := 0 } : Room) s m args below meth c H locs 0 0 (MQ below ((xQi D (fun (r : Int32) (_u : Unit) => ∃ v, v < 8192 ∧ r = nI v) (fun (_u : Unit) => [(hm, .inr (12, [.ref ms, .ref mkp, .int (nI km), .ref mtr, .int (nI n), .int (nI k), .int (nI al), .int (nI be), .int ea, .int pr, .ref mas, .int nq, .int po, .int (nI en), .ref mso, .ref mon, .ref mot, .ref man, .int th, .int xd, .ref mst, .ref msm, .ref mtb, .ref mti, .ref mfr, .ref mbn, .ref mbs, .ref mde, .int sF, .int sN, .int sS, .int ig, .long xa, .long xb, .ref maa, .ref mab, .ref mba, .ref mbb])), (ms, .inl (cs 0, 288, .inl f))])) A) args s 0 0 A) (F0 m 0 ls []) by rw [hlocs, hH] at hW; exact hW
  clear hH hlocs
  refine lv_bipush (v := nI 17) hx hb dX12_slot_0 (by decide) ?_
  refine lv_istore_n (lv' := [(1, .int (nI 17)), (0, .ref hm)]) hx hb dX12_slot_2 rfl hl (by decide) rfl ?_
  clear hl
  try clear ls
  intro ls hl
  refine lv_iconst (v := nI 0) hx hb dX12_slot_3 (by decide) ?_
  refine lv_istore_n (lv' := [(2, .int (nI 0)), (1, .int (nI 17)), (0, .ref hm)]) hx hb dX12_slot_4 rfl hl (by decide) rfl ?_
  clear hl
  try clear ls
  intro ls hl
  have loop_1 : ∀ (n_loop_1 : Nat) (o : Nat) (h9 : Int32), (o ≤ 48) → 48 - o < n_loop_1 → ∀ (H : Heap) (locs : List Loc) (ls : Array Slot), va_P D vwCl [(hm, .inr (12, [.ref ms, .ref mkp, .int (nI km), .ref mtr, .int (nI n), .int (nI k), .int (nI al), .int (nI be), .int ea, .int pr, .ref mas, .int nq, .int po, .int (nI en), .ref mso, .ref mon, .ref mot, .ref man, .int th, .int xd, .ref mst, .ref msm, .ref mtb, .ref mti, .ref mfr, .ref mbn, .ref mbs, .ref mde, .int sF, .int sN, .int sS, .int ig, .long xa, .long xb, .ref maa, .ref mab, .ref mba, .ref mbb])), (ms, .inl (cs 0, 288, .inl f))] H → va_D A [(hm, .inr (12, [.ref ms, .ref mkp, .int (nI km), .ref mtr, .int (nI n), .int (nI k), .int (nI al), .int (nI be), .int ea, .int pr, .ref mas, .int nq, .int po, .int (nI en), .ref mso, .ref mon, .ref mot, .ref man, .int th, .int xd, .ref mst, .ref msm, .ref mtb, .ref mti, .ref mfr, .ref mbn, .ref mbs, .ref mde, .int sF, .int sN, .int sS, .int ig, .long xa, .long xb, .ref maa, .ref mab, .ref mba, .ref mbb])), (ms, .inl (cs 0, 288, .inl f))] → va_S A s.heap H locs → lv_has ls 3 [(2, .int (nI o)), (1, .int h9), (0, .ref hm)] → W p l e ({ frames := 0, cells := 0, slots := 0, locals := 0 } : Room) s m args below meth c H locs 0 0 (MQ below ((xQi D (fun (r : Int32) (_u : Unit) => ∃ v, v < 8192 ∧ r = nI v) (fun (_u : Unit) => [(hm, .inr (12, [.ref ms, .ref mkp, .int (nI km), .ref mtr, .int (nI n), .int (nI k), .int (nI al), .int (nI be), .int ea, .int pr, .ref mas, .int nq, .int po, .int (nI en), .ref mso, .ref mon, .ref mot, .ref man, .int th, .int xd, .ref mst, .ref msm, .ref mtb, .ref mti, .ref mfr, .ref mbn, .ref mbs, .ref mde, .int sF, .int sN, .int sS, .int ig, .long xa, .long xb, .ref maa, .ref mab, .ref mba, .ref mbb])), (ms, .inl (cs 0, 288, .inl f))])) A) args s 0 0 A) (F0 m 5 ls []) := by
    intro n_loop_1
    induction n_loop_1 with
    | zero => intro o h9 h_o hlt H locs ls hP hD hS hl; exact absurd hlt (Nat.not_lt_zero _)
    | succ n_loop_1 ih_loop_1 =>
      intro o h9 h_o hlt_loop_1 H locs ls hP hD hS hl
      refine lv_iload_n hx hb dX12_slot_5 rfl (lv_at hl 0 rfl) ?_
      refine lv_bipush (v := nI 48) hx hb dX12_slot_6 (by decide) ?_
      refine lv_icmp_ge (tgt := 29) hx hb dX12_slot_8 (by decide) (fun c_2 => ?_) (fun c_2 => ?_)
      · -- 8 t
        have fc_2 : 48 ≤ o := nf_le (by omega) (by omega) c_2
        refine lv_iload_n hx hb dX12_slot_29 rfl (lv_at hl 1 rfl) ?_
        refine lv_iload_n hx hb dX12_slot_30 rfl (lv_at hl 1 rfl) ?_
        refine lv_bipush (v := nI 15) hx hb dX12_slot_31 (by decide) ?_
        refine lv_iushr hx hb dX12_slot_33 rfl ?_
        refine lv_ixor hx hb dX12_slot_34 ?_
        refine lv_istore_n (lv' := [(1, .int (h9 ^^^ ((h9.toUInt32 >>> ((nI 15).toUInt32 &&& Int32.toUInt32 31)).toInt32))), (2, .int (nI o)), (0, .ref hm)]) hx hb dX12_slot_35 rfl hl (by decide) rfl ?_
        clear hl
        try clear ls
        intro ls hl
        refine lv_iload_n hx hb dX12_slot_36 rfl (lv_at hl 0 rfl) ?_
        refine lv_sipush (v := nI 8191) hx hb dX12_slot_37 (by decide) ?_
        refine lv_iand hx hb dX12_slot_40 ?_
        exact xreti C () (and_lt _) hP hD hS (Nat.le_of_ble_eq_true rfl) (Nat.le_of_ble_eq_true rfl) rfl dX12_slot_41
      · -- 8 f
        have fc_2 : o < 48 := nf_nle (by omega) (by omega) c_2
        refine lv_bipush (v := nI 31) hx hb dX12_slot_11 (by decide) ?_
        refine lv_iload_n hx hb dX12_slot_13 rfl (lv_at hl 1 rfl) ?_
        refine lv_imul hx hb dX12_slot_14 ?_
        refine lv_aload_n hx hb dX12_slot_15 rfl (lv_at hl 2 rfl) ?_
        refine xget C hP 0 rfl rfl zuX12 0 (by decide) zw5_213 rfl dX12_slot_16 ?_
        refine lv_iload_n hx hb dX12_slot_19 rfl (lv_at hl 0 rfl) ?_
        refine xiald C hP 1 rfl o rfl (by omega) (by decide) dX12_slot_20 ?_
        refine lv_iadd hx hb dX12_slot_21 ?_
        refine lv_istore_n (lv' := [(1, .int (((nI 31) * h9) + (f o))), (2, .int (nI o)), (0, .ref hm)]) hx hb dX12_slot_22 rfl hl (by decide) rfl ?_
        clear hl
        try clear ls
        intro ls hl
        refine lv_iinc (v := nI (o + 1)) (lv' := [(2, .int (nI (o + 1))), (1, .int (((nI 31) * h9) + (f o))), (0, .ref hm)]) hx hb dX12_slot_23 hl (k := 1) rfl (nI_add o 1) (by decide) rfl ?_
        clear hl
        try clear ls
        intro ls hl
        refine lv_goto (tgt := 5) hx hb dX12_slot_26 (by decide) ?_
        exact ih_loop_1 (o + 1) (((nI 31) * h9) + (f o)) (by omega) (by omega) H locs ls hP hD hS (lv_sub hl [0, 1, 2] rfl)
  exact loop_1 _ 0 (nI 17) (by omega) (Nat.lt_succ_self _) H locs ls hP hD hS (lv_sub hl [0, 1, 2] rfl)

set_option maxHeartbeats 4000000 in
set_option maxRecDepth 100000 in
theorem c_X12_clears (l : Launch) (D : va_G) (cs : Nat → ClassId) (hm ms mkp mtr mas mso mon mot man mst msm mtb mti mfr mbn mbs mde maa mab mba mbb : Nat) (n k al be km en : Nat) (ea pr nq po th xd sF sN sS ig : Int32) (xa xb : Int64) (g0 qt sz : Nat) (ftb : Nat → Option Nat) (tf smf : Nat → Int32) (hg : g0 < 2) (hft : ftb g0 = some qt) : xMet l D cs yX12_clears cX12_clears 3 none ({ frames := 0, cells := 0, slots := 0, locals := 0 } : Room) [.ref hm, .int (nI g0)] [(hm, .inr (12, [.ref ms, .ref mkp, .int (nI km), .ref mtr, .int (nI n), .int (nI k), .int (nI al), .int (nI be), .int ea, .int pr, .ref mas, .int nq, .int po, .int (nI en), .ref mso, .ref mon, .ref mot, .ref man, .int th, .int xd, .ref mst, .ref msm, .ref mtb, .ref mti, .ref mfr, .ref mbn, .ref mbs, .ref mde, .int sF, .int sN, .int sS, .int ig, .long xa, .long xb, .ref maa, .ref mab, .ref mba, .ref mbb])), (mtb, .inl (cs 5, 2, .inr (.inr (.inr (.inr ftb))))), (qt, .inl (cs 0, 8192, .inl tf)), (msm, .inl (cs 0, 2, .inl smf))] (xQv D (fun (u : (Nat → Int32) × (Nat → Int32)) => match u with | (tz, smz) => tabP 0 tz ∧ smz = upd smf g0 (nI 0)) (fun (u : (Nat → Int32) × (Nat → Int32)) => match u with | (tz, smz) => [(hm, .inr (12, [.ref ms, .ref mkp, .int (nI km), .ref mtr, .int (nI n), .int (nI k), .int (nI al), .int (nI be), .int ea, .int pr, .ref mas, .int nq, .int po, .int (nI en), .ref mso, .ref mon, .ref mot, .ref man, .int th, .int xd, .ref mst, .ref msm, .ref mtb, .ref mti, .ref mfr, .ref mbn, .ref mbs, .ref mde, .int sF, .int sN, .int sS, .int ig, .long xa, .long xb, .ref maa, .ref mab, .ref mba, .ref mbb])), (mtb, .inl (cs 5, 2, .inr (.inr (.inr (.inr ftb))))), (qt, .inl (cs 0, 8192, .inl tz)), (msm, .inl (cs 0, 2, .inl smz))])) := by
  refine xMet.intro (by decide) (Nat.le_of_ble_eq_true rfl) ?_
  intro p e s m args below meth c A ls C hP hD hS hl
  have hx := C.1
  have hb := C.2.1
  have hz := C.2.2.2.2.1
  have hown := C.2.2.2.1
  have hA := C.2.2.2.2.2.2.2.2.2
  have hAO := C.2.2.2.2.2.2.2.2.1.2.2
  replace hl : lv_has ls 3 [(0, .ref hm), (1, .int (nI g0))] := hl
  obtain ⟨H, hH⟩ : ∃ H, H = s.heap := ⟨_, rfl⟩
  replace hP : va_P D vwCl [(hm, .inr (12, [.ref ms, .ref mkp, .int (nI km), .ref mtr, .int (nI n), .int (nI k), .int (nI al), .int (nI be), .int ea, .int pr, .ref mas, .int nq, .int po, .int (nI en), .ref mso, .ref mon, .ref mot, .ref man, .int th, .int xd, .ref mst, .ref msm, .ref mtb, .ref mti, .ref mfr, .ref mbn, .ref mbs, .ref mde, .int sF, .int sN, .int sS, .int ig, .long xa, .long xb, .ref maa, .ref mab, .ref mba, .ref mbb])), (mtb, .inl (cs 5, 2, .inr (.inr (.inr (.inr ftb))))), (qt, .inl (cs 0, 8192, .inl tf)), (msm, .inl (cs 0, 2, .inl smf))] H := by rw [hH]; exact hP
  replace hS : va_S A s.heap H [] := by rw [hH]; exact hS
  obtain ⟨locs, hlocs⟩ : ∃ z : List Loc, z = [] := ⟨_, rfl⟩
  rw [← hlocs] at hS
  suffices hW : W p l e ({ frames := 0, cells := 0, slots := 0, locals := 0 } : Room) s m args below meth c H locs 0 0 (MQ below ((xQv D (fun (u : (Nat → Int32) × (Nat → Int32)) => match u with | (tz, smz) => tabP 0 tz ∧ smz = upd smf g0 (nI 0)) (fun (u : (Nat → Int32) × (Nat → Int32)) => match u with | (tz, smz) => [(hm, .inr (12, [.ref ms, .ref mkp, .int (nI km), .ref mtr, .int (nI n), .int (nI k), .int (nI al), .int (nI be), .int ea, .int pr, .ref mas, .int nq, .int po, .int (nI en), .ref mso, .ref mon, .ref mot, .ref man, .int th, .int xd, .ref mst, .ref msm, .ref mtb, .ref mti, .ref mfr, .ref mbn, .ref mbs, .ref mde, .int sF, .int sN, .int sS, .int ig, .long xa, .long xb, .ref maa, .ref mab, .ref mba, .ref mbb])), (mtb, .inl (cs 5, 2, .inr (.inr (.inr (.inr ftb))))), (qt, .inl (cs 0, 8192, .inl tz)), (msm, .inl (cs 0, 2, .inl smz))])) A) args s 0 0 A) (F0 m 0 ls []) by rw [hlocs, hH] at hW; exact hW
  clear hH hlocs
  refine lv_aload_n hx hb dX12_clears_0 rfl (lv_at hl 0 rfl) ?_
  refine xget C hP 0 rfl rfl zuX12 21 (by decide) zw5_234 rfl dX12_clears_1 ?_
  refine lv_iload_n hx hb dX12_clears_4 rfl (lv_at hl 1 rfl) ?_
  refine lv_iconst (v := nI 0) hx hb dX12_clears_5 (by decide) ?_
  refine xiast C hP hD hS 3 rfl g0 rfl (by omega) (by decide) dX12_clears_6 ?_
  clear hP hD hS
  try clear locs
  try clear H
  intro H locs hP hD hS
  replace hP : va_P D vwCl [(hm, .inr (12, [.ref ms, .ref mkp, .int (nI km), .ref mtr, .int (nI n), .int (nI k), .int (nI al), .int (nI be), .int ea, .int pr, .ref mas, .int nq, .int po, .int (nI en), .ref mso, .ref mon, .ref mot, .ref man, .int th, .int xd, .ref mst, .ref msm, .ref mtb, .ref mti, .ref mfr, .ref mbn, .ref mbs, .ref mde, .int sF, .int sN, .int sS, .int ig, .long xa, .long xb, .ref maa, .ref mab, .ref mba, .ref mbb])), (mtb, .inl (cs 5, 2, .inr (.inr (.inr (.inr ftb))))), (qt, .inl (cs 0, 8192, .inl tf)), (msm, .inl (cs 0, 2, .inl (upd smf g0 (nI 0))))] H := hP
  replace hD : va_D A [(hm, .inr (12, [.ref ms, .ref mkp, .int (nI km), .ref mtr, .int (nI n), .int (nI k), .int (nI al), .int (nI be), .int ea, .int pr, .ref mas, .int nq, .int po, .int (nI en), .ref mso, .ref mon, .ref mot, .ref man, .int th, .int xd, .ref mst, .ref msm, .ref mtb, .ref mti, .ref mfr, .ref mbn, .ref mbs, .ref mde, .int sF, .int sN, .int sS, .int ig, .long xa, .long xb, .ref maa, .ref mab, .ref mba, .ref mbb])), (mtb, .inl (cs 5, 2, .inr (.inr (.inr (.inr ftb))))), (qt, .inl (cs 0, 8192, .inl tf)), (msm, .inl (cs 0, 2, .inl (upd smf g0 (nI 0))))] := hD
  refine lv_iconst (v := nI 0) hx hb dX12_clears_7 (by decide) ?_
  refine lv_istore_n (lv' := [(2, .int (nI 0)), (0, .ref hm), (1, .int (nI g0))]) hx hb dX12_clears_8 rfl hl (by decide) rfl ?_
  clear hl
  try clear ls
  intro ls hl
  have loop_1 : ∀ (n_loop_1 : Nat) (o : Nat) (t9 : Nat → Int32), (o ≤ 8192) → (∀ j, j < o → t9 j = nI 0) → 8192 - o < n_loop_1 → ∀ (H : Heap) (locs : List Loc) (ls : Array Slot), va_P D vwCl [(hm, .inr (12, [.ref ms, .ref mkp, .int (nI km), .ref mtr, .int (nI n), .int (nI k), .int (nI al), .int (nI be), .int ea, .int pr, .ref mas, .int nq, .int po, .int (nI en), .ref mso, .ref mon, .ref mot, .ref man, .int th, .int xd, .ref mst, .ref msm, .ref mtb, .ref mti, .ref mfr, .ref mbn, .ref mbs, .ref mde, .int sF, .int sN, .int sS, .int ig, .long xa, .long xb, .ref maa, .ref mab, .ref mba, .ref mbb])), (mtb, .inl (cs 5, 2, .inr (.inr (.inr (.inr ftb))))), (qt, .inl (cs 0, 8192, .inl t9)), (msm, .inl (cs 0, 2, .inl (upd smf g0 (nI 0))))] H → va_D A [(hm, .inr (12, [.ref ms, .ref mkp, .int (nI km), .ref mtr, .int (nI n), .int (nI k), .int (nI al), .int (nI be), .int ea, .int pr, .ref mas, .int nq, .int po, .int (nI en), .ref mso, .ref mon, .ref mot, .ref man, .int th, .int xd, .ref mst, .ref msm, .ref mtb, .ref mti, .ref mfr, .ref mbn, .ref mbs, .ref mde, .int sF, .int sN, .int sS, .int ig, .long xa, .long xb, .ref maa, .ref mab, .ref mba, .ref mbb])), (mtb, .inl (cs 5, 2, .inr (.inr (.inr (.inr ftb))))), (qt, .inl (cs 0, 8192, .inl t9)), (msm, .inl (cs 0, 2, .inl (upd smf g0 (nI 0))))] → va_S A s.heap H locs → lv_has ls 3 [(2, .int (nI o)), (0, .ref hm), (1, .int (nI g0))] → W p l e ({ frames := 0, cells := 0, slots := 0, locals := 0 } : Room) s m args below meth c H locs 0 0 (MQ below ((xQv D (fun (u : (Nat → Int32) × (Nat → Int32)) => match u with | (tz, smz) => tabP 0 tz ∧ smz = upd smf g0 (nI 0)) (fun (u : (Nat → Int32) × (Nat → Int32)) => match u with | (tz, smz) => [(hm, .inr (12, [.ref ms, .ref mkp, .int (nI km), .ref mtr, .int (nI n), .int (nI k), .int (nI al), .int (nI be), .int ea, .int pr, .ref mas, .int nq, .int po, .int (nI en), .ref mso, .ref mon, .ref mot, .ref man, .int th, .int xd, .ref mst, .ref msm, .ref mtb, .ref mti, .ref mfr, .ref mbn, .ref mbs, .ref mde, .int sF, .int sN, .int sS, .int ig, .long xa, .long xb, .ref maa, .ref mab, .ref mba, .ref mbb])), (mtb, .inl (cs 5, 2, .inr (.inr (.inr (.inr ftb))))), (qt, .inl (cs 0, 8192, .inl tz)), (msm, .inl (cs 0, 2, .inl smz))])) A) args s 0 0 A) (F0 m 9 ls []) := by
    intro n_loop_1
    induction n_loop_1 with
    | zero => intro o t9 h_o ht9 hlt H locs ls hP hD hS hl; exact absurd hlt (Nat.not_lt_zero _)
    | succ n_loop_1 ih_loop_1 =>
      intro o t9 h_o ht9 hlt_loop_1 H locs ls hP hD hS hl
      refine lv_iload_n hx hb dX12_clears_9 rfl (lv_at hl 0 rfl) ?_
      refine lv_sipush (v := nI 8192) hx hb dX12_clears_10 (by decide) ?_
      refine lv_icmp_ge (tgt := 31) hx hb dX12_clears_13 (by decide) (fun c_2 => ?_) (fun c_2 => ?_)
      · -- 13 t
        have fc_2 : 8192 ≤ o := nf_le (by omega) (by omega) c_2
        exact xretv C (⟨t9, (upd smf g0 (nI 0))⟩) (⟨tab_0 (fun j hj => ht9 j (by omega)), rfl⟩) hP hD hS (Nat.le_of_ble_eq_true rfl) (Nat.le_of_ble_eq_true rfl) dX12_clears_31
      · -- 13 f
        have fc_2 : o < 8192 := nf_nle (by omega) (by omega) c_2
        refine lv_aload_n hx hb dX12_clears_16 rfl (lv_at hl 1 rfl) ?_
        refine xget C hP 0 rfl rfl zuX12 22 (by decide) zw5_235 rfl dX12_clears_17 ?_
        refine lv_iload_n hx hb dX12_clears_20 rfl (lv_at hl 2 rfl) ?_
        refine xaald C hP 1 5 rfl rfl rfl g0 rfl (by omega) (by decide) hft dX12_clears_21 ?_
        refine lv_iload_n hx hb dX12_clears_22 rfl (lv_at hl 0 rfl) ?_
        refine lv_iconst (v := nI 0) hx hb dX12_clears_23 (by decide) ?_
        refine xiast C hP hD hS 2 rfl o rfl (by omega) (by decide) dX12_clears_24 ?_
        clear hP hD hS
        try clear locs
        try clear H
        intro H locs hP hD hS
        replace hP : va_P D vwCl [(hm, .inr (12, [.ref ms, .ref mkp, .int (nI km), .ref mtr, .int (nI n), .int (nI k), .int (nI al), .int (nI be), .int ea, .int pr, .ref mas, .int nq, .int po, .int (nI en), .ref mso, .ref mon, .ref mot, .ref man, .int th, .int xd, .ref mst, .ref msm, .ref mtb, .ref mti, .ref mfr, .ref mbn, .ref mbs, .ref mde, .int sF, .int sN, .int sS, .int ig, .long xa, .long xb, .ref maa, .ref mab, .ref mba, .ref mbb])), (mtb, .inl (cs 5, 2, .inr (.inr (.inr (.inr ftb))))), (qt, .inl (cs 0, 8192, .inl (upd t9 o (nI 0)))), (msm, .inl (cs 0, 2, .inl (upd smf g0 (nI 0))))] H := hP
        replace hD : va_D A [(hm, .inr (12, [.ref ms, .ref mkp, .int (nI km), .ref mtr, .int (nI n), .int (nI k), .int (nI al), .int (nI be), .int ea, .int pr, .ref mas, .int nq, .int po, .int (nI en), .ref mso, .ref mon, .ref mot, .ref man, .int th, .int xd, .ref mst, .ref msm, .ref mtb, .ref mti, .ref mfr, .ref mbn, .ref mbs, .ref mde, .int sF, .int sN, .int sS, .int ig, .long xa, .long xb, .ref maa, .ref mab, .ref mba, .ref mbb])), (mtb, .inl (cs 5, 2, .inr (.inr (.inr (.inr ftb))))), (qt, .inl (cs 0, 8192, .inl (upd t9 o (nI 0)))), (msm, .inl (cs 0, 2, .inl (upd smf g0 (nI 0))))] := hD
        refine lv_iinc (v := nI (o + 1)) (lv' := [(2, .int (nI (o + 1))), (0, .ref hm), (1, .int (nI g0))]) hx hb dX12_clears_25 hl (k := 0) rfl (nI_add o 1) (by decide) rfl ?_
        clear hl
        try clear ls
        intro ls hl
        refine lv_goto (tgt := 9) hx hb dX12_clears_28 (by decide) ?_
        exact ih_loop_1 (o + 1) (upd t9 o (nI 0)) (by omega) (fun j hj => by unfold upd; by_cases q : j = o; rw [if_pos q]; rw [if_neg q]; exact ht9 j (by omega)) (by omega) H locs ls hP hD hS (lv_sub hl [0, 1, 2] rfl)
  exact loop_1 _ 0 tf (by omega) (fun j hj => absurd hj (Nat.not_lt_zero j)) (Nat.lt_succ_self _) H locs ls hP hD hS (lv_sub hl [0, 1, 2] rfl)

/-- so many rows of 48, of states -/
def stP (sz : Nat) (s : Nat → Int32) : Prop := ∀ r, r < sz → ∀ a, a < 8 → colV (s (48 * r + a))
theorem stP_0 (s : Nat → Int32) : stP 0 s := fun _ h => absurd h (Nat.not_lt_zero _)
def stQ (sz o : Nat) (s : Nat → Int32) : Prop := stP sz s ∧ ∀ a, a < o → a < 8 → colV (s (48 * sz + a))
theorem stQ_0 {sz : Nat} {s : Nat → Int32} (h : stP sz s) : stQ sz 0 s := ⟨h, fun _ h => absurd h (Nat.not_lt_zero _)⟩
theorem stQ_put {sz o : Nat} {s f : Nat → Int32} (h : stQ sz o s) (hf : colP f) (ho : o < 48) : stQ sz (o + 1) (upd s (48 * sz + o) (f o)) := ⟨fun r hr a ha => by
  unfold upd
  rw [if_neg (by omega)]
  exact h.1 r hr a ha, fun a ha h8 => by
  unfold upd
  by_cases q : a = o
  · rw [if_pos (by rw [q])]; exact hf o (by omega)
  · rw [if_neg (by omega)]; exact h.2 a (by omega) h8⟩
theorem stQ_end {sz : Nat} {s : Nat → Int32} (h : stQ sz 48 s) : stP (sz + 1) s := fun r hr a ha => by
  by_cases q : r = sz
  · subst q; exact h.2 a (by omega) ha
  · exact h.1 r (by omega) a ha
theorem upd_at {f : Nat → Int32} {i : Nat} {x : Int32} : upd f i x i = x := if_pos rfl
theorem upd_ne {f : Nat → Int32} {i j : Nat} {x : Int32} (h : ¬ j = i) : upd f i x j = f j := if_neg h

set_option maxHeartbeats 4000000 in
set_option maxRecDepth 100000 in
theorem c_X12_isAsNow (l : Launch) (D : va_G) (cs : Nat → ClassId) (hm ms mkp mtr mas mso mon mot man mst msm mtb mti mfr mbn mbs mde maa mab mba mbb : Nat) (n k al be km en : Nat) (ea pr nq po th xd sF sN sS ig : Int32) (xa xb : Int64) (f : Nat → Int32) (g0 qs z : Nat) (fst : Nat → Option Nat) (sf : Nat → Int32) (hg : g0 < 2) (hfs : fst g0 = some qs) (hz0 : z < 2001) : xMet l D cs yX12_isAsNow cX12_isAsNow 4 (some .boolean) ({ frames := 0, cells := 0, slots := 0, locals := 0 } : Room) [.ref hm, .int (nI g0), .int (nI z)] [(hm, .inr (12, [.ref ms, .ref mkp, .int (nI km), .ref mtr, .int (nI n), .int (nI k), .int (nI al), .int (nI be), .int ea, .int pr, .ref mas, .int nq, .int po, .int (nI en), .ref mso, .ref mon, .ref mot, .ref man, .int th, .int xd, .ref mst, .ref msm, .ref mtb, .ref mti, .ref mfr, .ref mbn, .ref mbs, .ref mde, .int sF, .int sN, .int sS, .int ig, .long xa, .long xb, .ref maa, .ref mab, .ref mba, .ref mbb])), (ms, .inl (cs 0, 288, .inl f)), (mst, .inl (cs 5, 2, .inr (.inr (.inr (.inr fst))))), (qs, .inl (cs 0, 96048, .inl sf))] (xQi D (fun (r : Int32) (_u : Unit) => (r = nI 0 ∨ r = nI 1)) (fun (_u : Unit) => [(hm, .inr (12, [.ref ms, .ref mkp, .int (nI km), .ref mtr, .int (nI n), .int (nI k), .int (nI al), .int (nI be), .int ea, .int pr, .ref mas, .int nq, .int po, .int (nI en), .ref mso, .ref mon, .ref mot, .ref man, .int th, .int xd, .ref mst, .ref msm, .ref mtb, .ref mti, .ref mfr, .ref mbn, .ref mbs, .ref mde, .int sF, .int sN, .int sS, .int ig, .long xa, .long xb, .ref maa, .ref mab, .ref mba, .ref mbb])), (ms, .inl (cs 0, 288, .inl f)), (mst, .inl (cs 5, 2, .inr (.inr (.inr (.inr fst))))), (qs, .inl (cs 0, 96048, .inl sf))])) := by
  refine xMet.intro (by decide) (Nat.le_of_ble_eq_true rfl) ?_
  intro p e s m args below meth c A ls C hP hD hS hl
  have hx := C.1
  have hb := C.2.1
  have hz := C.2.2.2.2.1
  have hown := C.2.2.2.1
  have hA := C.2.2.2.2.2.2.2.2.2
  have hAO := C.2.2.2.2.2.2.2.2.1.2.2
  replace hl : lv_has ls 4 [(0, .ref hm), (1, .int (nI g0)), (2, .int (nI z))] := hl
  obtain ⟨H, hH⟩ : ∃ H, H = s.heap := ⟨_, rfl⟩
  replace hP : va_P D vwCl [(hm, .inr (12, [.ref ms, .ref mkp, .int (nI km), .ref mtr, .int (nI n), .int (nI k), .int (nI al), .int (nI be), .int ea, .int pr, .ref mas, .int nq, .int po, .int (nI en), .ref mso, .ref mon, .ref mot, .ref man, .int th, .int xd, .ref mst, .ref msm, .ref mtb, .ref mti, .ref mfr, .ref mbn, .ref mbs, .ref mde, .int sF, .int sN, .int sS, .int ig, .long xa, .long xb, .ref maa, .ref mab, .ref mba, .ref mbb])), (ms, .inl (cs 0, 288, .inl f)), (mst, .inl (cs 5, 2, .inr (.inr (.inr (.inr fst))))), (qs, .inl (cs 0, 96048, .inl sf))] H := by rw [hH]; exact hP
  replace hS : va_S A s.heap H [] := by rw [hH]; exact hS
  obtain ⟨locs, hlocs⟩ : ∃ z : List Loc, z = [] := ⟨_, rfl⟩
  rw [← hlocs] at hS
  suffices hW : W p l e ({ frames := 0, cells := 0, slots := 0, locals := 0 } : Room) s m args below meth c H locs 0 0 (MQ below ((xQi D (fun (r : Int32) (_u : Unit) => (r = nI 0 ∨ r = nI 1)) (fun (_u : Unit) => [(hm, .inr (12, [.ref ms, .ref mkp, .int (nI km), .ref mtr, .int (nI n), .int (nI k), .int (nI al), .int (nI be), .int ea, .int pr, .ref mas, .int nq, .int po, .int (nI en), .ref mso, .ref mon, .ref mot, .ref man, .int th, .int xd, .ref mst, .ref msm, .ref mtb, .ref mti, .ref mfr, .ref mbn, .ref mbs, .ref mde, .int sF, .int sN, .int sS, .int ig, .long xa, .long xb, .ref maa, .ref mab, .ref mba, .ref mbb])), (ms, .inl (cs 0, 288, .inl f)), (mst, .inl (cs 5, 2, .inr (.inr (.inr (.inr fst))))), (qs, .inl (cs 0, 96048, .inl sf))])) A) args s 0 0 A) (F0 m 0 ls []) by rw [hlocs, hH] at hW; exact hW
  clear hH hlocs
  refine lv_iconst (v := nI 0) hx hb dX12_isAsNow_0 (by decide) ?_
  refine lv_istore_n (lv' := [(3, .int (nI 0)), (0, .ref hm), (1, .int (nI g0)), (2, .int (nI z))]) hx hb dX12_isAsNow_1 rfl hl (by decide) rfl ?_
  clear hl
  try clear ls
  intro ls hl
  have loop_1 : ∀ (n_loop_1 : Nat) (o : Nat), (o ≤ 48) → 48 - o < n_loop_1 → ∀ (H : Heap) (locs : List Loc) (ls : Array Slot), va_P D vwCl [(hm, .inr (12, [.ref ms, .ref mkp, .int (nI km), .ref mtr, .int (nI n), .int (nI k), .int (nI al), .int (nI be), .int ea, .int pr, .ref mas, .int nq, .int po, .int (nI en), .ref mso, .ref mon, .ref mot, .ref man, .int th, .int xd, .ref mst, .ref msm, .ref mtb, .ref mti, .ref mfr, .ref mbn, .ref mbs, .ref mde, .int sF, .int sN, .int sS, .int ig, .long xa, .long xb, .ref maa, .ref mab, .ref mba, .ref mbb])), (ms, .inl (cs 0, 288, .inl f)), (mst, .inl (cs 5, 2, .inr (.inr (.inr (.inr fst))))), (qs, .inl (cs 0, 96048, .inl sf))] H → va_D A [(hm, .inr (12, [.ref ms, .ref mkp, .int (nI km), .ref mtr, .int (nI n), .int (nI k), .int (nI al), .int (nI be), .int ea, .int pr, .ref mas, .int nq, .int po, .int (nI en), .ref mso, .ref mon, .ref mot, .ref man, .int th, .int xd, .ref mst, .ref msm, .ref mtb, .ref mti, .ref mfr, .ref mbn, .ref mbs, .ref mde, .int sF, .int sN, .int sS, .int ig, .long xa, .long xb, .ref maa, .ref mab, .ref mba, .ref mbb])), (ms, .inl (cs 0, 288, .inl f)), (mst, .inl (cs 5, 2, .inr (.inr (.inr (.inr fst))))), (qs, .inl (cs 0, 96048, .inl sf))] → va_S A s.heap H locs → lv_has ls 4 [(3, .int (nI o)), (0, .ref hm), (1, .int (nI g0)), (2, .int (nI z))] → W p l e ({ frames := 0, cells := 0, slots := 0, locals := 0 } : Room) s m args below meth c H locs 0 0 (MQ below ((xQi D (fun (r : Int32) (_u : Unit) => (r = nI 0 ∨ r = nI 1)) (fun (_u : Unit) => [(hm, .inr (12, [.ref ms, .ref mkp, .int (nI km), .ref mtr, .int (nI n), .int (nI k), .int (nI al), .int (nI be), .int ea, .int pr, .ref mas, .int nq, .int po, .int (nI en), .ref mso, .ref mon, .ref mot, .ref man, .int th, .int xd, .ref mst, .ref msm, .ref mtb, .ref mti, .ref mfr, .ref mbn, .ref mbs, .ref mde, .int sF, .int sN, .int sS, .int ig, .long xa, .long xb, .ref maa, .ref mab, .ref mba, .ref mbb])), (ms, .inl (cs 0, 288, .inl f)), (mst, .inl (cs 5, 2, .inr (.inr (.inr (.inr fst))))), (qs, .inl (cs 0, 96048, .inl sf))])) A) args s 0 0 A) (F0 m 2 ls []) := by
    intro n_loop_1
    induction n_loop_1 with
    | zero => intro o h_o hlt H locs ls hP hD hS hl; exact absurd hlt (Nat.not_lt_zero _)
    | succ n_loop_1 ih_loop_1 =>
      intro o h_o hlt_loop_1 H locs ls hP hD hS hl
      refine lv_iload_n hx hb dX12_isAsNow_2 rfl (lv_at hl 0 rfl) ?_
      refine lv_bipush (v := nI 48) hx hb dX12_isAsNow_3 (by decide) ?_
      refine lv_icmp_ge (tgt := 38) hx hb dX12_isAsNow_5 (by decide) (fun c_2 => ?_) (fun c_2 => ?_)
      · -- 5 t
        have fc_2 : 48 ≤ o := nf_le (by omega) (by omega) c_2
        refine lv_iconst (v := nI 1) hx hb dX12_isAsNow_38 (by decide) ?_
        exact xreti C () (by decide) hP hD hS (Nat.le_of_ble_eq_true rfl) (Nat.le_of_ble_eq_true rfl) (by decide) dX12_isAsNow_39
      · -- 5 f
        have fc_2 : o < 48 := nf_nle (by omega) (by omega) c_2
        refine lv_aload_n hx hb dX12_isAsNow_8 rfl (lv_at hl 1 rfl) ?_
        refine xget C hP 0 rfl rfl zuX12 20 (by decide) zw5_233 rfl dX12_isAsNow_9 ?_
        refine lv_iload_n hx hb dX12_isAsNow_12 rfl (lv_at hl 2 rfl) ?_
        refine xaald C hP 2 5 rfl rfl rfl g0 rfl (by omega) (by decide) hfs dX12_isAsNow_13 ?_
        refine lv_bipush (v := nI 48) hx hb dX12_isAsNow_14 (by decide) ?_
        refine lv_iload_n hx hb dX12_isAsNow_16 rfl (lv_at hl 3 rfl) ?_
        refine lv_imul hx hb dX12_isAsNow_17 ?_
        refine lv_topi (nm_r (e' := nI (48 * z)) (pk_mul _ _) ?_)
        refine lv_iload_n hx hb dX12_isAsNow_18 rfl (lv_at hl 0 rfl) ?_
        refine lv_iadd hx hb dX12_isAsNow_19 ?_
        refine lv_topi (nm_r (e' := nI ((48 * z) + o)) (nI_add _ _) ?_)
        refine xiald C hP 3 rfl ((48 * z) + o) rfl (by omega) (by decide) dX12_isAsNow_20 ?_
        refine lv_aload_n hx hb dX12_isAsNow_21 rfl (lv_at hl 1 rfl) ?_
        refine xget C hP 0 rfl rfl zuX12 0 (by decide) zw5_213 rfl dX12_isAsNow_22 ?_
        refine lv_iload_n hx hb dX12_isAsNow_25 rfl (lv_at hl 0 rfl) ?_
        refine xiald C hP 1 rfl o rfl (by omega) (by decide) dX12_isAsNow_26 ?_
        refine lv_icmp_eq (tgt := 32) hx hb dX12_isAsNow_27 (by decide) (fun c_3 => ?_) (fun c_3 => ?_)
        · -- 27 t
          refine lv_iinc (v := nI (o + 1)) (lv' := [(3, .int (nI (o + 1))), (0, .ref hm), (1, .int (nI g0)), (2, .int (nI z))]) hx hb dX12_isAsNow_32 hl (k := 0) rfl (nI_add o 1) (by decide) rfl ?_
          clear hl
          try clear ls
          intro ls hl
          refine lv_goto (tgt := 2) hx hb dX12_isAsNow_35 (by decide) ?_
          exact ih_loop_1 (o + 1) (by omega) (by omega) H locs ls hP hD hS (lv_sub hl [0, 1, 2, 3] rfl)
        · -- 27 f
          refine lv_iconst (v := nI 0) hx hb dX12_isAsNow_30 (by decide) ?_
          exact xreti C () (by decide) hP hD hS (Nat.le_of_ble_eq_true rfl) (Nat.le_of_ble_eq_true rfl) (by decide) dX12_isAsNow_31
  exact loop_1 _ 0 (by omega) (Nat.lt_succ_self _) H locs ls hP hD hS (lv_sub hl [0, 1, 2, 3] rfl)

set_option maxHeartbeats 4000000 in
set_option maxRecDepth 100000 in
theorem c_X12_brings (l : Launch) (D : va_G) (cs : Nat → ClassId) (hm ms mkp mtr mas mso mon mot man mst msm mtb mti mfr mbn mbs mde maa mab mba mbb : Nat) (n k al be km en : Nat) (ea pr nq po th xd sF sN sS ig : Int32) (xa xb : Int64) (f : Nat → Int32) (g0 qs z sz : Nat) (fst : Nat → Option Nat) (sf : Nat → Int32) (hg : g0 < 2) (hfs : fst g0 = some qs) (hz0 : z < sz) (hzs : sz ≤ 2000) (hst : stP sz sf) : xMet l D cs yX12_brings cX12_brings 4 none ({ frames := 0, cells := 0, slots := 0, locals := 0 } : Room) [.ref hm, .int (nI g0), .int (nI z)] [(hm, .inr (12, [.ref ms, .ref mkp, .int (nI km), .ref mtr, .int (nI n), .int (nI k), .int (nI al), .int (nI be), .int ea, .int pr, .ref mas, .int nq, .int po, .int (nI en), .ref mso, .ref mon, .ref mot, .ref man, .int th, .int xd, .ref mst, .ref msm, .ref mtb, .ref mti, .ref mfr, .ref mbn, .ref mbs, .ref mde, .int sF, .int sN, .int sS, .int ig, .long xa, .long xb, .ref maa, .ref mab, .ref mba, .ref mbb])), (ms, .inl (cs 0, 288, .inl f)), (mst, .inl (cs 5, 2, .inr (.inr (.inr (.inr fst))))), (qs, .inl (cs 0, 96048, .inl sf))] (xQv D (fun (fz : (Nat → Int32)) => colP fz ∧ ∀ j, 48 ≤ j → fz j = f j) (fun (fz : (Nat → Int32)) => [(hm, .inr (12, [.ref ms, .ref mkp, .int (nI km), .ref mtr, .int (nI n), .int (nI k), .int (nI al), .int (nI be), .int ea, .int pr, .ref mas, .int nq, .int po, .int (nI en), .ref mso, .ref mon, .ref mot, .ref man, .int th, .int xd, .ref mst, .ref msm, .ref mtb, .ref mti, .ref mfr, .ref mbn, .ref mbs, .ref mde, .int sF, .int sN, .int sS, .int ig, .long xa, .long xb, .ref maa, .ref mab, .ref mba, .ref mbb])), (ms, .inl (cs 0, 288, .inl fz)), (mst, .inl (cs 5, 2, .inr (.inr (.inr (.inr fst))))), (qs, .inl (cs 0, 96048, .inl sf))])) := by
  refine xMet.intro (by decide) (Nat.le_of_ble_eq_true rfl) ?_
  intro p e s m args below meth c A ls C hP hD hS hl
  have hx := C.1
  have hb := C.2.1
  have hz := C.2.2.2.2.1
  have hown := C.2.2.2.1
  have hA := C.2.2.2.2.2.2.2.2.2
  have hAO := C.2.2.2.2.2.2.2.2.1.2.2
  replace hl : lv_has ls 4 [(0, .ref hm), (1, .int (nI g0)), (2, .int (nI z))] := hl
  obtain ⟨H, hH⟩ : ∃ H, H = s.heap := ⟨_, rfl⟩
  replace hP : va_P D vwCl [(hm, .inr (12, [.ref ms, .ref mkp, .int (nI km), .ref mtr, .int (nI n), .int (nI k), .int (nI al), .int (nI be), .int ea, .int pr, .ref mas, .int nq, .int po, .int (nI en), .ref mso, .ref mon, .ref mot, .ref man, .int th, .int xd, .ref mst, .ref msm, .ref mtb, .ref mti, .ref mfr, .ref mbn, .ref mbs, .ref mde, .int sF, .int sN, .int sS, .int ig, .long xa, .long xb, .ref maa, .ref mab, .ref mba, .ref mbb])), (ms, .inl (cs 0, 288, .inl f)), (mst, .inl (cs 5, 2, .inr (.inr (.inr (.inr fst))))), (qs, .inl (cs 0, 96048, .inl sf))] H := by rw [hH]; exact hP
  replace hS : va_S A s.heap H [] := by rw [hH]; exact hS
  obtain ⟨locs, hlocs⟩ : ∃ z : List Loc, z = [] := ⟨_, rfl⟩
  rw [← hlocs] at hS
  suffices hW : W p l e ({ frames := 0, cells := 0, slots := 0, locals := 0 } : Room) s m args below meth c H locs 0 0 (MQ below ((xQv D (fun (fz : (Nat → Int32)) => colP fz ∧ ∀ j, 48 ≤ j → fz j = f j) (fun (fz : (Nat → Int32)) => [(hm, .inr (12, [.ref ms, .ref mkp, .int (nI km), .ref mtr, .int (nI n), .int (nI k), .int (nI al), .int (nI be), .int ea, .int pr, .ref mas, .int nq, .int po, .int (nI en), .ref mso, .ref mon, .ref mot, .ref man, .int th, .int xd, .ref mst, .ref msm, .ref mtb, .ref mti, .ref mfr, .ref mbn, .ref mbs, .ref mde, .int sF, .int sN, .int sS, .int ig, .long xa, .long xb, .ref maa, .ref mab, .ref mba, .ref mbb])), (ms, .inl (cs 0, 288, .inl fz)), (mst, .inl (cs 5, 2, .inr (.inr (.inr (.inr fst))))), (qs, .inl (cs 0, 96048, .inl sf))])) A) args s 0 0 A) (F0 m 0 ls []) by rw [hlocs, hH] at hW; exact hW
  clear hH hlocs
  refine lv_iconst (v := nI 0) hx hb dX12_brings_0 (by decide) ?_
  refine lv_istore_n (lv' := [(3, .int (nI 0)), (0, .ref hm), (1, .int (nI g0)), (2, .int (nI z))]) hx hb dX12_brings_1 rfl hl (by decide) rfl ?_
  clear hl
  try clear ls
  intro ls hl
  have loop_1 : ∀ (n_loop_1 : Nat) (o : Nat) (f9 : Nat → Int32), (o ≤ 48) → ((∀ j, j < o → f9 j = sf (48 * z + j)) ∧ ∀ j, 48 ≤ j → f9 j = f j) → 48 - o < n_loop_1 → ∀ (H : Heap) (locs : List Loc) (ls : Array Slot), va_P D vwCl [(hm, .inr (12, [.ref ms, .ref mkp, .int (nI km), .ref mtr, .int (nI n), .int (nI k), .int (nI al), .int (nI be), .int ea, .int pr, .ref mas, .int nq, .int po, .int (nI en), .ref mso, .ref mon, .ref mot, .ref man, .int th, .int xd, .ref mst, .ref msm, .ref mtb, .ref mti, .ref mfr, .ref mbn, .ref mbs, .ref mde, .int sF, .int sN, .int sS, .int ig, .long xa, .long xb, .ref maa, .ref mab, .ref mba, .ref mbb])), (ms, .inl (cs 0, 288, .inl f9)), (mst, .inl (cs 5, 2, .inr (.inr (.inr (.inr fst))))), (qs, .inl (cs 0, 96048, .inl sf))] H → va_D A [(hm, .inr (12, [.ref ms, .ref mkp, .int (nI km), .ref mtr, .int (nI n), .int (nI k), .int (nI al), .int (nI be), .int ea, .int pr, .ref mas, .int nq, .int po, .int (nI en), .ref mso, .ref mon, .ref mot, .ref man, .int th, .int xd, .ref mst, .ref msm, .ref mtb, .ref mti, .ref mfr, .ref mbn, .ref mbs, .ref mde, .int sF, .int sN, .int sS, .int ig, .long xa, .long xb, .ref maa, .ref mab, .ref mba, .ref mbb])), (ms, .inl (cs 0, 288, .inl f9)), (mst, .inl (cs 5, 2, .inr (.inr (.inr (.inr fst))))), (qs, .inl (cs 0, 96048, .inl sf))] → va_S A s.heap H locs → lv_has ls 4 [(3, .int (nI o)), (0, .ref hm), (1, .int (nI g0)), (2, .int (nI z))] → W p l e ({ frames := 0, cells := 0, slots := 0, locals := 0 } : Room) s m args below meth c H locs 0 0 (MQ below ((xQv D (fun (fz : (Nat → Int32)) => colP fz ∧ ∀ j, 48 ≤ j → fz j = f j) (fun (fz : (Nat → Int32)) => [(hm, .inr (12, [.ref ms, .ref mkp, .int (nI km), .ref mtr, .int (nI n), .int (nI k), .int (nI al), .int (nI be), .int ea, .int pr, .ref mas, .int nq, .int po, .int (nI en), .ref mso, .ref mon, .ref mot, .ref man, .int th, .int xd, .ref mst, .ref msm, .ref mtb, .ref mti, .ref mfr, .ref mbn, .ref mbs, .ref mde, .int sF, .int sN, .int sS, .int ig, .long xa, .long xb, .ref maa, .ref mab, .ref mba, .ref mbb])), (ms, .inl (cs 0, 288, .inl fz)), (mst, .inl (cs 5, 2, .inr (.inr (.inr (.inr fst))))), (qs, .inl (cs 0, 96048, .inl sf))])) A) args s 0 0 A) (F0 m 2 ls []) := by
    intro n_loop_1
    induction n_loop_1 with
    | zero => intro o f9 h_o hf9 hlt H locs ls hP hD hS hl; exact absurd hlt (Nat.not_lt_zero _)
    | succ n_loop_1 ih_loop_1 =>
      intro o f9 h_o hf9 hlt_loop_1 H locs ls hP hD hS hl
      refine lv_iload_n hx hb dX12_brings_2 rfl (lv_at hl 0 rfl) ?_
      refine lv_bipush (v := nI 48) hx hb dX12_brings_3 (by decide) ?_
      refine lv_icmp_ge (tgt := 33) hx hb dX12_brings_5 (by decide) (fun c_2 => ?_) (fun c_2 => ?_)
      · -- 5 t
        have fc_2 : 48 ≤ o := nf_le (by omega) (by omega) c_2
        exact xretv C f9 (⟨fun a ha => by rw [hf9.1 a (by omega)]; exact hst z hz0 a ha, hf9.2⟩) hP hD hS (Nat.le_of_ble_eq_true rfl) (Nat.le_of_ble_eq_true rfl) dX12_brings_33
      · -- 5 f
        have fc_2 : o < 48 := nf_nle (by omega) (by omega) c_2
        refine lv_aload_n hx hb dX12_brings_8 rfl (lv_at hl 1 rfl) ?_
        refine xget C hP 0 rfl rfl zuX12 0 (by decide) zw5_213 rfl dX12_brings_9 ?_
        refine lv_iload_n hx hb dX12_brings_12 rfl (lv_at hl 0 rfl) ?_
        refine lv_aload_n hx hb dX12_brings_13 rfl (lv_at hl 1 rfl) ?_
        refine xget C hP 0 rfl rfl zuX12 20 (by decide) zw5_233 rfl dX12_brings_14 ?_
        refine lv_iload_n hx hb dX12_brings_17 rfl (lv_at hl 2 rfl) ?_
        refine xaald C hP 2 5 rfl rfl rfl g0 rfl (by omega) (by decide) hfs dX12_brings_18 ?_
        refine lv_bipush (v := nI 48) hx hb dX12_brings_19 (by decide) ?_
        refine lv_iload_n hx hb dX12_brings_21 rfl (lv_at hl 3 rfl) ?_
        refine lv_imul hx hb dX12_brings_22 ?_
        refine lv_topi (nm_r (e' := nI (48 * z)) (pk_mul _ _) ?_)
        refine lv_iload_n hx hb dX12_brings_23 rfl (lv_at hl 0 rfl) ?_
        refine lv_iadd hx hb dX12_brings_24 ?_
        refine lv_topi (nm_r (e' := nI ((48 * z) + o)) (nI_add _ _) ?_)
        refine xiald C hP 3 rfl ((48 * z) + o) rfl (by omega) (by decide) dX12_brings_25 ?_
        refine xiast C hP hD hS 1 rfl o rfl (by omega) (by decide) dX12_brings_26 ?_
        clear hP hD hS
        try clear locs
        try clear H
        intro H locs hP hD hS
        replace hP : va_P D vwCl [(hm, .inr (12, [.ref ms, .ref mkp, .int (nI km), .ref mtr, .int (nI n), .int (nI k), .int (nI al), .int (nI be), .int ea, .int pr, .ref mas, .int nq, .int po, .int (nI en), .ref mso, .ref mon, .ref mot, .ref man, .int th, .int xd, .ref mst, .ref msm, .ref mtb, .ref mti, .ref mfr, .ref mbn, .ref mbs, .ref mde, .int sF, .int sN, .int sS, .int ig, .long xa, .long xb, .ref maa, .ref mab, .ref mba, .ref mbb])), (ms, .inl (cs 0, 288, .inl (upd f9 o (sf ((48 * z) + o))))), (mst, .inl (cs 5, 2, .inr (.inr (.inr (.inr fst))))), (qs, .inl (cs 0, 96048, .inl sf))] H := hP
        replace hD : va_D A [(hm, .inr (12, [.ref ms, .ref mkp, .int (nI km), .ref mtr, .int (nI n), .int (nI k), .int (nI al), .int (nI be), .int ea, .int pr, .ref mas, .int nq, .int po, .int (nI en), .ref mso, .ref mon, .ref mot, .ref man, .int th, .int xd, .ref mst, .ref msm, .ref mtb, .ref mti, .ref mfr, .ref mbn, .ref mbs, .ref mde, .int sF, .int sN, .int sS, .int ig, .long xa, .long xb, .ref maa, .ref mab, .ref mba, .ref mbb])), (ms, .inl (cs 0, 288, .inl (upd f9 o (sf ((48 * z) + o))))), (mst, .inl (cs 5, 2, .inr (.inr (.inr (.inr fst))))), (qs, .inl (cs 0, 96048, .inl sf))] := hD
        refine lv_iinc (v := nI (o + 1)) (lv' := [(3, .int (nI (o + 1))), (0, .ref hm), (1, .int (nI g0)), (2, .int (nI z))]) hx hb dX12_brings_27 hl (k := 0) rfl (nI_add o 1) (by decide) rfl ?_
        clear hl
        try clear ls
        intro ls hl
        refine lv_goto (tgt := 2) hx hb dX12_brings_30 (by decide) ?_
        exact ih_loop_1 (o + 1) (upd f9 o (sf ((48 * z) + o))) (by omega) (⟨fun j hj => by unfold upd; by_cases q : j = o; rw [if_pos q, q]; rw [if_neg q]; exact hf9.1 j (by omega), fun j hj => by unfold upd; rw [if_neg (by omega)]; exact hf9.2 j hj⟩) (by omega) H locs ls hP hD hS (lv_sub hl [0, 1, 2, 3] rfl)
  exact loop_1 _ 0 f (by omega) (⟨fun j hj => absurd hj (Nat.not_lt_zero j), fun _ _ => rfl⟩) (Nat.lt_succ_self _) H locs ls hP hD hS (lv_sub hl [0, 1, 2, 3] rfl)
