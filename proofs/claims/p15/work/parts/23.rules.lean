def fitsP (a b c d : Int32) : Prop := ¬ a < nI 2 ∧ ¬ nI 8 < a ∧ ¬ b < nI 1 ∧ ¬ a ≤ b ∧ ¬ c < nI 1 ∧ ¬ b < c ∧ ¬ nI 2 * c ≤ b ∧ ¬ d < nI 1 ∧ ¬ nI 15 < d
/-- a node's number -/
def okN (n : Nat) (x : Int32) : Prop := ¬ x < 0 ∧ ¬ nI n ≤ x
theorem okN_of {n : Nat} {x : Int32} (h : okN n x) (hn : n < 2 ^ 31) : ∃ j : Nat, j < n ∧ x = nI j := by
  rcases pk_ix x hn with q | q | q
  · exact absurd q h.1
  · exact absurd q h.2
  · exact q
theorem okN_nI {n j : Nat} (h : j < n) (hn : n < 2 ^ 31) : okN n (nI j) := ⟨nI_pos (by omega), fun q => absurd ((nI_leI hn (by omega)).mp q) (by omega)⟩
theorem xshl : ∀ n, n < 31 → nI 1 <<< (nI n &&& 31) = nI (2 ^ n) := by decide
def smpP (n k : Nat) (x b : Int32) : Prop := okN n x ∧ b &&& (((nI (2 ^ n - 1)) &&& ((nI 1 <<< (x &&& 31)) ^^^ (-1))) ^^^ (-1)) = 0 ∧ bcF b = nI k
/-- choose's steps -/
def chW (m : Nat) : Nat → Int32 | 0 => nI 1 | i + 1 => chW m i * nI (m - i) / nI (i + 1)
def chF (m j : Nat) : Int32 := if m < j then nI 0 else chW m j
def ccS (i n k al : Nat) : Nat → Int32 | 0 => nI 0 | d + 1 => ccS i n k al d + chF i (al + d) * chF (n - 1 - i) (k - (al + d))
def fcF (n k al : Nat) (g : Nat → Int32) (i : Nat) : Nat → Int32 := fun j => if j < i then ccS j n k al (k + 1 - al) else g j
theorem fcF_0 (n k al : Nat) (g : Nat → Int32) : g = fcF n k al g 0 := by funext j; simp [fcF]
theorem fcF_s (n k al : Nat) (g : Nat → Int32) (i : Nat) : upd (fcF n k al g i) i (ccS i n k al (k + 1 - al)) = fcF n k al g (i + 1) := by
  funext j
  simp only [upd, fcF]
  by_cases h : j = i
  · rw [if_pos h, if_pos (by omega), h]
  · rw [if_neg h]
    by_cases h2 : j < i
    · rw [if_pos h2, if_pos (by omega)]
    · rw [if_neg h2, if_neg (by omega)]

set_option maxHeartbeats 4000000 in
set_option maxRecDepth 100000 in
theorem c_X7_fits (l : Launch) (D : va_G) (cs : Nat → ClassId) (x1 x2 x3 x4 : Int32) : xMet l D cs yX7_fits cX7_fits 4 (some .boolean) ({ frames := 0, cells := 0, slots := 0, locals := 0 } : Room) [.int x1, .int x2, .int x3, .int x4] [] (xQi D (fun (r : Int32) (_u : Unit) => (r = nI 1 ∧ fitsP x1 x2 x3 x4) ∨ (r = nI 0 ∧ ¬ fitsP x1 x2 x3 x4)) (fun (_u : Unit) => [])) := by
  refine xMet.intro (by decide) (Nat.le_of_ble_eq_true rfl) ?_
  intro p e s m args below meth c A ls C hP hD hS hl
  have hx := C.1
  have hb := C.2.1
  have hz := C.2.2.2.2.1
  have hown := C.2.2.2.1
  have hA := C.2.2.2.2.2.2.2.2.2
  have hAO := C.2.2.2.2.2.2.2.2.1.2.2
  replace hl : lv_has ls 4 [(0, .int x1), (1, .int x2), (2, .int x3), (3, .int x4)] := hl
  obtain ⟨H, hH⟩ : ∃ H, H = s.heap := ⟨_, rfl⟩
  replace hP : va_P D vwCl [] H := by rw [hH]; exact hP
  replace hS : va_S A s.heap H [] := by rw [hH]; exact hS
  obtain ⟨locs, hlocs⟩ : ∃ z : List Loc, z = [] := ⟨_, rfl⟩
  rw [← hlocs] at hS
  suffices hW : W p l e ({ frames := 0, cells := 0, slots := 0, locals := 0 } : Room) s m args below meth c H locs 0 0 (MQ below ((xQi D (fun (r : Int32) (_u : Unit) => (r = nI 1 ∧ fitsP x1 x2 x3 x4) ∨ (r = nI 0 ∧ ¬ fitsP x1 x2 x3 x4)) (fun (_u : Unit) => [])) A) args s 0 0 A) (F0 m 0 ls []) by rw [hlocs, hH] at hW; exact hW
  clear hH hlocs
  refine lv_iload_n hx hb dX7_fits_0 rfl (lv_at hl 0 rfl) ?_
  refine lv_iconst (v := nI 2) hx hb dX7_fits_1 (by decide) ?_
  refine lv_icmp_lt (tgt := 53) hx hb dX7_fits_2 (by decide) (fun c_1 => ?_) (fun c_1 => ?_)
  · -- 2 t
    refine lv_iconst (v := nI 0) hx hb dX7_fits_53 (by decide) ?_
    exact xreti C () (Or.inr ⟨rfl, fun q => q.1 c_1⟩) hP hD hS (Nat.le_of_ble_eq_true rfl) (Nat.le_of_ble_eq_true rfl) (by decide) dX7_fits_54
  · -- 2 f
    refine lv_iload_n hx hb dX7_fits_5 rfl (lv_at hl 0 rfl) ?_
    refine lv_bipush (v := nI 8) hx hb dX7_fits_6 (by decide) ?_
    refine lv_icmp_gt (tgt := 53) hx hb dX7_fits_8 (by decide) (fun c_2 => ?_) (fun c_2 => ?_)
    · -- 8 t
      refine lv_iconst (v := nI 0) hx hb dX7_fits_53 (by decide) ?_
      exact xreti C () (Or.inr ⟨rfl, fun q => q.2.1 c_2⟩) hP hD hS (Nat.le_of_ble_eq_true rfl) (Nat.le_of_ble_eq_true rfl) (by decide) dX7_fits_54
    · -- 8 f
      refine lv_iload_n hx hb dX7_fits_11 rfl (lv_at hl 1 rfl) ?_
      refine lv_iconst (v := nI 1) hx hb dX7_fits_12 (by decide) ?_
      refine lv_icmp_lt (tgt := 53) hx hb dX7_fits_13 (by decide) (fun c_3 => ?_) (fun c_3 => ?_)
      · -- 13 t
        refine lv_iconst (v := nI 0) hx hb dX7_fits_53 (by decide) ?_
        exact xreti C () (Or.inr ⟨rfl, fun q => q.2.2.1 c_3⟩) hP hD hS (Nat.le_of_ble_eq_true rfl) (Nat.le_of_ble_eq_true rfl) (by decide) dX7_fits_54
      · -- 13 f
        refine lv_iload_n hx hb dX7_fits_16 rfl (lv_at hl 1 rfl) ?_
        refine lv_iload_n hx hb dX7_fits_17 rfl (lv_at hl 0 rfl) ?_
        refine lv_icmp_ge (tgt := 53) hx hb dX7_fits_18 (by decide) (fun c_4 => ?_) (fun c_4 => ?_)
        · -- 18 t
          refine lv_iconst (v := nI 0) hx hb dX7_fits_53 (by decide) ?_
          exact xreti C () (Or.inr ⟨rfl, fun q => q.2.2.2.1 c_4⟩) hP hD hS (Nat.le_of_ble_eq_true rfl) (Nat.le_of_ble_eq_true rfl) (by decide) dX7_fits_54
        · -- 18 f
          refine lv_iload_n hx hb dX7_fits_21 rfl (lv_at hl 2 rfl) ?_
          refine lv_iconst (v := nI 1) hx hb dX7_fits_22 (by decide) ?_
          refine lv_icmp_lt (tgt := 53) hx hb dX7_fits_23 (by decide) (fun c_5 => ?_) (fun c_5 => ?_)
          · -- 23 t
            refine lv_iconst (v := nI 0) hx hb dX7_fits_53 (by decide) ?_
            exact xreti C () (Or.inr ⟨rfl, fun q => q.2.2.2.2.1 c_5⟩) hP hD hS (Nat.le_of_ble_eq_true rfl) (Nat.le_of_ble_eq_true rfl) (by decide) dX7_fits_54
          · -- 23 f
            refine lv_iload_n hx hb dX7_fits_26 rfl (lv_at hl 2 rfl) ?_
            refine lv_iload_n hx hb dX7_fits_27 rfl (lv_at hl 1 rfl) ?_
            refine lv_icmp_gt (tgt := 53) hx hb dX7_fits_28 (by decide) (fun c_6 => ?_) (fun c_6 => ?_)
            · -- 28 t
              refine lv_iconst (v := nI 0) hx hb dX7_fits_53 (by decide) ?_
              exact xreti C () (Or.inr ⟨rfl, fun q => q.2.2.2.2.2.1 c_6⟩) hP hD hS (Nat.le_of_ble_eq_true rfl) (Nat.le_of_ble_eq_true rfl) (by decide) dX7_fits_54
            · -- 28 f
              refine lv_iconst (v := nI 2) hx hb dX7_fits_31 (by decide) ?_
              refine lv_iload_n hx hb dX7_fits_32 rfl (lv_at hl 2 rfl) ?_
              refine lv_imul hx hb dX7_fits_33 ?_
              refine lv_iload_n hx hb dX7_fits_34 rfl (lv_at hl 1 rfl) ?_
              refine lv_icmp_le (tgt := 53) hx hb dX7_fits_35 (by decide) (fun c_7 => ?_) (fun c_7 => ?_)
              · -- 35 t
                refine lv_iconst (v := nI 0) hx hb dX7_fits_53 (by decide) ?_
                exact xreti C () (Or.inr ⟨rfl, fun q => q.2.2.2.2.2.2.1 c_7⟩) hP hD hS (Nat.le_of_ble_eq_true rfl) (Nat.le_of_ble_eq_true rfl) (by decide) dX7_fits_54
              · -- 35 f
                refine lv_iload_n hx hb dX7_fits_38 rfl (lv_at hl 3 rfl) ?_
                refine lv_iconst (v := nI 1) hx hb dX7_fits_39 (by decide) ?_
                refine lv_icmp_lt (tgt := 53) hx hb dX7_fits_40 (by decide) (fun c_8 => ?_) (fun c_8 => ?_)
                · -- 40 t
                  refine lv_iconst (v := nI 0) hx hb dX7_fits_53 (by decide) ?_
                  exact xreti C () (Or.inr ⟨rfl, fun q => q.2.2.2.2.2.2.2.1 c_8⟩) hP hD hS (Nat.le_of_ble_eq_true rfl) (Nat.le_of_ble_eq_true rfl) (by decide) dX7_fits_54
                · -- 40 f
                  refine lv_iload_n hx hb dX7_fits_43 rfl (lv_at hl 3 rfl) ?_
                  refine lv_bipush (v := nI 15) hx hb dX7_fits_44 (by decide) ?_
                  refine lv_icmp_gt (tgt := 53) hx hb dX7_fits_46 (by decide) (fun c_9 => ?_) (fun c_9 => ?_)
                  · -- 46 t
                    refine lv_iconst (v := nI 0) hx hb dX7_fits_53 (by decide) ?_
                    exact xreti C () (Or.inr ⟨rfl, fun q => q.2.2.2.2.2.2.2.2 c_9⟩) hP hD hS (Nat.le_of_ble_eq_true rfl) (Nat.le_of_ble_eq_true rfl) (by decide) dX7_fits_54
                  · -- 46 f
                    refine lv_iconst (v := nI 1) hx hb dX7_fits_49 (by decide) ?_
                    refine lv_goto (tgt := 54) hx hb dX7_fits_50 (by decide) ?_
                    exact xreti C () (Or.inl ⟨rfl, c_1, c_2, c_3, c_4, c_5, c_6, c_7, c_8, c_9⟩) hP hD hS (Nat.le_of_ble_eq_true rfl) (Nat.le_of_ble_eq_true rfl) (by decide) dX7_fits_54

set_option maxHeartbeats 4000000 in
set_option maxRecDepth 100000 in
theorem c_X7_isNode (l : Launch) (D : va_G) (cs : Nat → ClassId) (h sm ca n k al be : Nat) (ea pr se : Int32) (x : Int32) : xMet l D cs yX7_isNode cX7_isNode 2 (some .boolean) ({ frames := 0, cells := 0, slots := 0, locals := 0 } : Room) [.ref h, .int x] [(h, .inr (7, [.int (nI n), .int (nI k), .int (nI al), .int (nI be), .int ea, .int pr, .ref sm, .int se, .ref ca]))] (xQi D (fun (r : Int32) (_u : Unit) => (r = nI 1 ∧ okN n x) ∨ (r = nI 0 ∧ ¬ okN n x)) (fun (_u : Unit) => [(h, .inr (7, [.int (nI n), .int (nI k), .int (nI al), .int (nI be), .int ea, .int pr, .ref sm, .int se, .ref ca]))])) := by
  refine xMet.intro (by decide) (Nat.le_of_ble_eq_true rfl) ?_
  intro p e s m args below meth c A ls C hP hD hS hl
  have hx := C.1
  have hb := C.2.1
  have hz := C.2.2.2.2.1
  have hown := C.2.2.2.1
  have hA := C.2.2.2.2.2.2.2.2.2
  have hAO := C.2.2.2.2.2.2.2.2.1.2.2
  replace hl : lv_has ls 2 [(0, .ref h), (1, .int x)] := hl
  obtain ⟨H, hH⟩ : ∃ H, H = s.heap := ⟨_, rfl⟩
  replace hP : va_P D vwCl [(h, .inr (7, [.int (nI n), .int (nI k), .int (nI al), .int (nI be), .int ea, .int pr, .ref sm, .int se, .ref ca]))] H := by rw [hH]; exact hP
  replace hS : va_S A s.heap H [] := by rw [hH]; exact hS
  obtain ⟨locs, hlocs⟩ : ∃ z : List Loc, z = [] := ⟨_, rfl⟩
  rw [← hlocs] at hS
  suffices hW : W p l e ({ frames := 0, cells := 0, slots := 0, locals := 0 } : Room) s m args below meth c H locs 0 0 (MQ below ((xQi D (fun (r : Int32) (_u : Unit) => (r = nI 1 ∧ okN n x) ∨ (r = nI 0 ∧ ¬ okN n x)) (fun (_u : Unit) => [(h, .inr (7, [.int (nI n), .int (nI k), .int (nI al), .int (nI be), .int ea, .int pr, .ref sm, .int se, .ref ca]))])) A) args s 0 0 A) (F0 m 0 ls []) by rw [hlocs, hH] at hW; exact hW
  clear hH hlocs
  refine lv_iload_n hx hb dX7_isNode_0 rfl (lv_at hl 1 rfl) ?_
  refine lv_if_lt (tgt := 16) hx hb dX7_isNode_1 (by decide) (fun c_1 => ?_) (fun c_1 => ?_)
  · -- 1 t
    refine lv_iconst (v := nI 0) hx hb dX7_isNode_16 (by decide) ?_
    exact xreti C () (Or.inr ⟨rfl, fun q => q.1 c_1⟩) hP hD hS (Nat.le_of_ble_eq_true rfl) (Nat.le_of_ble_eq_true rfl) (by decide) dX7_isNode_17
  · -- 1 f
    refine lv_iload_n hx hb dX7_isNode_4 rfl (lv_at hl 1 rfl) ?_
    refine lv_aload_n hx hb dX7_isNode_5 rfl (lv_at hl 0 rfl) ?_
    refine xget C hP 0 rfl rfl zuX7 0 (by decide) zw1_78 rfl dX7_isNode_6 ?_
    refine lv_icmp_ge (tgt := 16) hx hb dX7_isNode_9 (by decide) (fun c_2 => ?_) (fun c_2 => ?_)
    · -- 9 t
      refine lv_iconst (v := nI 0) hx hb dX7_isNode_16 (by decide) ?_
      exact xreti C () (Or.inr ⟨rfl, fun q => q.2 c_2⟩) hP hD hS (Nat.le_of_ble_eq_true rfl) (Nat.le_of_ble_eq_true rfl) (by decide) dX7_isNode_17
    · -- 9 f
      refine lv_iconst (v := nI 1) hx hb dX7_isNode_12 (by decide) ?_
      refine lv_goto (tgt := 17) hx hb dX7_isNode_13 (by decide) ?_
      exact xreti C () (Or.inl ⟨rfl, c_1, c_2⟩) hP hD hS (Nat.le_of_ble_eq_true rfl) (Nat.le_of_ble_eq_true rfl) (by decide) dX7_isNode_17

set_option maxHeartbeats 4000000 in
set_option maxRecDepth 100000 in
theorem c_X7_allNodes (l : Launch) (D : va_G) (cs : Nat → ClassId) (h sm ca n k al be : Nat) (ea pr se : Int32) (hn : n ≤ 8) : xMet l D cs yX7_allNodes cX7_allNodes 1 (some .int) ({ frames := 0, cells := 0, slots := 0, locals := 0 } : Room) [.ref h] [(h, .inr (7, [.int (nI n), .int (nI k), .int (nI al), .int (nI be), .int ea, .int pr, .ref sm, .int se, .ref ca]))] (xQi D (fun (r : Int32) (_u : Unit) => r = nI (2 ^ n - 1)) (fun (_u : Unit) => [(h, .inr (7, [.int (nI n), .int (nI k), .int (nI al), .int (nI be), .int ea, .int pr, .ref sm, .int se, .ref ca]))])) := by
  refine xMet.intro (by decide) (Nat.le_of_ble_eq_true rfl) ?_
  intro p e s m args below meth c A ls C hP hD hS hl
  have hx := C.1
  have hb := C.2.1
  have hz := C.2.2.2.2.1
  have hown := C.2.2.2.1
  have hA := C.2.2.2.2.2.2.2.2.2
  have hAO := C.2.2.2.2.2.2.2.2.1.2.2
  replace hl : lv_has ls 1 [(0, .ref h)] := hl
  obtain ⟨H, hH⟩ : ∃ H, H = s.heap := ⟨_, rfl⟩
  replace hP : va_P D vwCl [(h, .inr (7, [.int (nI n), .int (nI k), .int (nI al), .int (nI be), .int ea, .int pr, .ref sm, .int se, .ref ca]))] H := by rw [hH]; exact hP
  replace hS : va_S A s.heap H [] := by rw [hH]; exact hS
  obtain ⟨locs, hlocs⟩ : ∃ z : List Loc, z = [] := ⟨_, rfl⟩
  rw [← hlocs] at hS
  suffices hW : W p l e ({ frames := 0, cells := 0, slots := 0, locals := 0 } : Room) s m args below meth c H locs 0 0 (MQ below ((xQi D (fun (r : Int32) (_u : Unit) => r = nI (2 ^ n - 1)) (fun (_u : Unit) => [(h, .inr (7, [.int (nI n), .int (nI k), .int (nI al), .int (nI be), .int ea, .int pr, .ref sm, .int se, .ref ca]))])) A) args s 0 0 A) (F0 m 0 ls []) by rw [hlocs, hH] at hW; exact hW
  clear hH hlocs
  refine lv_iconst (v := nI 1) hx hb dX7_allNodes_0 (by decide) ?_
  refine lv_aload_n hx hb dX7_allNodes_1 rfl (lv_at hl 0 rfl) ?_
  refine xget C hP 0 rfl rfl zuX7 0 (by decide) zw1_78 rfl dX7_allNodes_2 ?_
  refine lv_ishl hx hb dX7_allNodes_5 ?_
  refine lv_topi (nm_r (e' := nI (2 ^ n)) (xshl n (by omega)) ?_)
  refine lv_iconst (v := nI 1) hx hb dX7_allNodes_6 (by decide) ?_
  refine lv_isub hx hb dX7_allNodes_7 ?_
  refine lv_topi (nm_r (e' := nI ((2 ^ n) - 1)) (pk_sub (Nat.one_le_two_pow)) ?_)
  exact xreti C () rfl hP hD hS (Nat.le_of_ble_eq_true rfl) (Nat.le_of_ble_eq_true rfl) rfl dX7_allNodes_8

set_option maxHeartbeats 4000000 in
set_option maxRecDepth 100000 in
theorem c_X7_isSample (l : Launch) (D : va_G) (cs : Nat → ClassId) (h sm ca n k al be : Nat) (ea pr se : Int32) (x b : Int32) (hn : n ≤ 8) : xMet l D cs yX7_isSample cX7_isSample 3 (some .boolean) ({ frames := 1, cells := 0, slots := 0, locals := 21 } : Room) [.ref h, .int x, .int b] [(h, .inr (7, [.int (nI n), .int (nI k), .int (nI al), .int (nI be), .int ea, .int pr, .ref sm, .int se, .ref ca]))] (xQi D (fun (r : Int32) (_u : Unit) => (r = nI 1 ∧ smpP n k x b) ∨ (r = nI 0 ∧ ¬ smpP n k x b)) (fun (_u : Unit) => [(h, .inr (7, [.int (nI n), .int (nI k), .int (nI al), .int (nI be), .int ea, .int pr, .ref sm, .int se, .ref ca]))])) := by
  refine xMet.intro (by decide) (Nat.le_of_ble_eq_true rfl) ?_
  intro p e s m args below meth c A ls C hP hD hS hl
  have hx := C.1
  have hb := C.2.1
  have hz := C.2.2.2.2.1
  have hown := C.2.2.2.1
  have hA := C.2.2.2.2.2.2.2.2.2
  have hAO := C.2.2.2.2.2.2.2.2.1.2.2
  replace hl : lv_has ls 3 [(0, .ref h), (1, .int x), (2, .int b)] := hl
  obtain ⟨H, hH⟩ : ∃ H, H = s.heap := ⟨_, rfl⟩
  replace hP : va_P D vwCl [(h, .inr (7, [.int (nI n), .int (nI k), .int (nI al), .int (nI be), .int ea, .int pr, .ref sm, .int se, .ref ca]))] H := by rw [hH]; exact hP
  replace hS : va_S A s.heap H [] := by rw [hH]; exact hS
  obtain ⟨locs, hlocs⟩ : ∃ z : List Loc, z = [] := ⟨_, rfl⟩
  rw [← hlocs] at hS
  suffices hW : W p l e ({ frames := 1, cells := 0, slots := 0, locals := 21 } : Room) s m args below meth c H locs 0 0 (MQ below ((xQi D (fun (r : Int32) (_u : Unit) => (r = nI 1 ∧ smpP n k x b) ∨ (r = nI 0 ∧ ¬ smpP n k x b)) (fun (_u : Unit) => [(h, .inr (7, [.int (nI n), .int (nI k), .int (nI al), .int (nI be), .int ea, .int pr, .ref sm, .int se, .ref ca]))])) A) args s 0 0 A) (F0 m 0 ls []) by rw [hlocs, hH] at hW; exact hW
  clear hH hlocs
  refine lv_aload_n hx hb dX7_isSample_0 rfl (lv_at hl 0 rfl) ?_
  refine lv_iload_n hx hb dX7_isSample_1 rfl (lv_at hl 1 rfl) ?_
  refine xi (wr := []) (xV (As := [.int x]) (rest := []) C (c_X7_isNode l D cs h sm ca n k al be ea pr se x) kX7_71 hP hD [0] rfl (by decide) 0 rfl rfl rfl ⟨Nat.le_of_ble_eq_true rfl, Nat.le_of_ble_eq_true rfl⟩ rfl hl.1 rfl (Nat.le_of_ble_eq_true rfl) dX7_isSample_2 ⟨Nat.le_of_ble_eq_true rfl, Nat.le_of_ble_eq_true rfl⟩) hP hD hS hA [0] [] rfl rfl (by decide) (by decide) ?_
  clear hP hD hS
  try clear locs
  try clear H
  intro r_1 u_2 H locs hw_r_1 hP hD hS
  have hw_r_1 : (r_1 = nI 1 ∧ okN n x) ∨ (r_1 = nI 0 ∧ ¬ okN n x) := hw_r_1
  refine W.widen (k := 0) (n := 0) (Nat.le_of_ble_eq_true rfl) (Nat.le_of_ble_eq_true rfl) ?_
  replace hP : va_P D vwCl [(h, .inr (7, [.int (nI n), .int (nI k), .int (nI al), .int (nI be), .int ea, .int pr, .ref sm, .int se, .ref ca]))] H := hP
  replace hD : va_D A [(h, .inr (7, [.int (nI n), .int (nI k), .int (nI al), .int (nI be), .int ea, .int pr, .ref sm, .int se, .ref ca]))] := hD
  refine lv_if_eq (tgt := 40) hx hb dX7_isSample_5 (by decide) (fun c_3 => ?_) (fun c_3 => ?_)
  · -- 5 t
    have hbad : ¬ okN n x := by rcases hw_r_1 with q | q; exact absurd (q.1.symm.trans c_3) (by decide); exact q.2
    refine lv_iconst (v := nI 0) hx hb dX7_isSample_40 (by decide) ?_
    exact xreti C () (Or.inr ⟨rfl, fun q => hbad q.1⟩) hP hD hS (Nat.le_of_ble_eq_true rfl) (Nat.le_of_ble_eq_true rfl) (by decide) dX7_isSample_41
  · -- 5 f
    have hok : okN n x := by rcases hw_r_1 with q | q; exact q.2; exact absurd q.1 c_3
    refine lv_iload_n hx hb dX7_isSample_8 rfl (lv_at hl 2 rfl) ?_
    refine lv_aload_n hx hb dX7_isSample_9 rfl (lv_at hl 0 rfl) ?_
    refine xi (wr := []) (xV (As := []) (rest := [.int b]) C (c_X7_allNodes l D cs h sm ca n k al be ea pr se (by first | omega | decide)) kX7_63 hP hD [0] rfl (by decide) 0 rfl rfl rfl ⟨Nat.le_of_ble_eq_true rfl, Nat.le_of_ble_eq_true rfl⟩ rfl hl.1 rfl (Nat.le_of_ble_eq_true rfl) dX7_isSample_10 ⟨Nat.le_of_ble_eq_true rfl, Nat.le_of_ble_eq_true rfl⟩) hP hD hS hA [0] [] rfl rfl (by decide) (by decide) ?_
    clear hP hD hS
    try clear locs
    try clear H
    intro r_4 u_5 H locs hw_r_4 hP hD hS
    have hw_r_4 : r_4 = nI (2 ^ n - 1) := hw_r_4
    refine W.widen (k := 0) (n := 0) (Nat.le_of_ble_eq_true rfl) (Nat.le_of_ble_eq_true rfl) ?_
    replace hP : va_P D vwCl [(h, .inr (7, [.int (nI n), .int (nI k), .int (nI al), .int (nI be), .int ea, .int pr, .ref sm, .int se, .ref ca]))] H := hP
    replace hD : va_D A [(h, .inr (7, [.int (nI n), .int (nI k), .int (nI al), .int (nI be), .int ea, .int pr, .ref sm, .int se, .ref ca]))] := hD
    subst hw_r_4
    refine lv_iconst (v := nI 1) hx hb dX7_isSample_13 (by decide) ?_
    refine lv_iload_n hx hb dX7_isSample_14 rfl (lv_at hl 1 rfl) ?_
    refine lv_ishl hx hb dX7_isSample_15 ?_
    refine lv_iconst (v := (-1)) hx hb dX7_isSample_16 (by decide) ?_
    refine lv_ixor hx hb dX7_isSample_17 ?_
    refine lv_iand hx hb dX7_isSample_18 ?_
    refine lv_iconst (v := (-1)) hx hb dX7_isSample_19 (by decide) ?_
    refine lv_ixor hx hb dX7_isSample_20 ?_
    refine lv_iand hx hb dX7_isSample_21 ?_
    refine lv_if_ne (tgt := 40) hx hb dX7_isSample_22 (by decide) (fun c_6 => ?_) (fun c_6 => ?_)
    · -- 22 t
      refine lv_iconst (v := nI 0) hx hb dX7_isSample_40 (by decide) ?_
      exact xreti C () (Or.inr ⟨rfl, fun q => c_6 q.2.1⟩) hP hD hS (Nat.le_of_ble_eq_true rfl) (Nat.le_of_ble_eq_true rfl) (by decide) dX7_isSample_41
    · -- 22 f
      refine lv_iload_n hx hb dX7_isSample_25 rfl (lv_at hl 2 rfl) ?_
      refine xi (wr := [(h, .inr (7, [.int (nI n), .int (nI k), .int (nI al), .int (nI be), .int ea, .int pr, .ref sm, .int se, .ref ca]))]) (xS (As := [.int b]) (rest := []) C (c_J6_bitCount_0f7a4 l D cs b) kX7_75 hP hD [] rfl (by decide) ⟨Nat.le_of_ble_eq_true rfl, Nat.le_of_ble_eq_true rfl⟩ rfl hl.1 rfl (Nat.le_of_ble_eq_true rfl) dX7_isSample_26 ⟨Nat.le_of_ble_eq_true rfl, Nat.le_of_ble_eq_true rfl⟩) hP hD hS hA [] [0] rfl rfl (by decide) (by decide) ?_
      clear hP hD hS
      try clear locs
      try clear H
      intro r_7 u_8 H locs hw_r_7 hP hD hS
      have hw_r_7 : r_7 = bcF b := hw_r_7
      refine W.widen (k := 0) (n := 0) (Nat.le_of_ble_eq_true rfl) (Nat.le_of_ble_eq_true rfl) ?_
      replace hP : va_P D vwCl [(h, .inr (7, [.int (nI n), .int (nI k), .int (nI al), .int (nI be), .int ea, .int pr, .ref sm, .int se, .ref ca]))] H := hP
      replace hD : va_D A [(h, .inr (7, [.int (nI n), .int (nI k), .int (nI al), .int (nI be), .int ea, .int pr, .ref sm, .int se, .ref ca]))] := hD
      subst hw_r_7
      refine lv_aload_n hx hb dX7_isSample_29 rfl (lv_at hl 0 rfl) ?_
      refine xget C hP 0 rfl rfl zuX7 1 (by decide) zw1_83 rfl dX7_isSample_30 ?_
      refine lv_icmp_ne (tgt := 40) hx hb dX7_isSample_33 (by decide) (fun c_9 => ?_) (fun c_9 => ?_)
      · -- 33 t
        refine lv_iconst (v := nI 0) hx hb dX7_isSample_40 (by decide) ?_
        exact xreti C () (Or.inr ⟨rfl, fun q => c_9 q.2.2⟩) hP hD hS (Nat.le_of_ble_eq_true rfl) (Nat.le_of_ble_eq_true rfl) (by decide) dX7_isSample_41
      · -- 33 f
        refine lv_iconst (v := nI 1) hx hb dX7_isSample_36 (by decide) ?_
        refine lv_goto (tgt := 41) hx hb dX7_isSample_37 (by decide) ?_
        exact xreti C () (Or.inl ⟨rfl, hok, c_6, c_9⟩) hP hD hS (Nat.le_of_ble_eq_true rfl) (Nat.le_of_ble_eq_true rfl) (by decide) dX7_isSample_41

set_option maxHeartbeats 4000000 in
set_option maxRecDepth 100000 in
theorem c_X7_choose (l : Launch) (D : va_G) (cs : Nat → ClassId) (mm j : Nat) (hm : mm < 2 ^ 20) (hj : j < 2 ^ 20) : xMet l D cs yX7_choose cX7_choose 4 (some .int) ({ frames := 0, cells := 0, slots := 0, locals := 0 } : Room) [.int (nI mm), .int (nI j)] [] (xQi D (fun (r : Int32) (_u : Unit) => r = chF mm j) (fun (_u : Unit) => [])) := by
  refine xMet.intro (by decide) (Nat.le_of_ble_eq_true rfl) ?_
  intro p e s m args below meth c A ls C hP hD hS hl
  have hx := C.1
  have hb := C.2.1
  have hz := C.2.2.2.2.1
  have hown := C.2.2.2.1
  have hA := C.2.2.2.2.2.2.2.2.2
  have hAO := C.2.2.2.2.2.2.2.2.1.2.2
  replace hl : lv_has ls 4 [(0, .int (nI mm)), (1, .int (nI j))] := hl
  obtain ⟨H, hH⟩ : ∃ H, H = s.heap := ⟨_, rfl⟩
  replace hP : va_P D vwCl [] H := by rw [hH]; exact hP
  replace hS : va_S A s.heap H [] := by rw [hH]; exact hS
  obtain ⟨locs, hlocs⟩ : ∃ z : List Loc, z = [] := ⟨_, rfl⟩
  rw [← hlocs] at hS
  suffices hW : W p l e ({ frames := 0, cells := 0, slots := 0, locals := 0 } : Room) s m args below meth c H locs 0 0 (MQ below ((xQi D (fun (r : Int32) (_u : Unit) => r = chF mm j) (fun (_u : Unit) => [])) A) args s 0 0 A) (F0 m 0 ls []) by rw [hlocs, hH] at hW; exact hW
  clear hH hlocs
  refine lv_iload_n hx hb dX7_choose_0 rfl (lv_at hl 1 rfl) ?_
  refine lv_if_lt (tgt := 9) hx hb dX7_choose_1 (by decide) (fun c => absurd c (nI_pos (by omega))) (fun _ => ?_)
  refine lv_iload_n hx hb dX7_choose_4 rfl (lv_at hl 1 rfl) ?_
  refine lv_iload_n hx hb dX7_choose_5 rfl (lv_at hl 0 rfl) ?_
  refine lv_icmp_le (tgt := 11) hx hb dX7_choose_6 (by decide) (fun c_1 => ?_) (fun c_1 => ?_)
  · -- 6 t
    have fc_1 : j ≤ mm := nf_le (by omega) (by omega) c_1
    refine lv_iconst (v := nI 1) hx hb dX7_choose_11 (by decide) ?_
    refine lv_istore_n (lv' := [(2, .int (nI 1)), (0, .int (nI mm)), (1, .int (nI j))]) hx hb dX7_choose_12 rfl hl (by decide) rfl ?_
    clear hl
    try clear ls
    intro ls hl
    refine lv_iconst (v := nI 0) hx hb dX7_choose_13 (by decide) ?_
    refine lv_istore_n (lv' := [(3, .int (nI 0)), (2, .int (nI 1)), (0, .int (nI mm)), (1, .int (nI j))]) hx hb dX7_choose_14 rfl hl (by decide) rfl ?_
    clear hl
    try clear ls
    intro ls hl
    have loop_2 : ∀ (n_loop_2 : Nat) (i : Nat), (i ≤ j) → j - i < n_loop_2 → ∀ (H : Heap) (locs : List Loc) (ls : Array Slot), va_P D vwCl [] H → va_D A [] → va_S A s.heap H locs → lv_has ls 4 [(3, .int (nI i)), (2, .int (chW mm i)), (0, .int (nI mm)), (1, .int (nI j))] → W p l e ({ frames := 0, cells := 0, slots := 0, locals := 0 } : Room) s m args below meth c H locs 0 0 (MQ below ((xQi D (fun (r : Int32) (_u : Unit) => r = chF mm j) (fun (_u : Unit) => [])) A) args s 0 0 A) (F0 m 15 ls []) := by
      intro n_loop_2
      induction n_loop_2 with
      | zero => intro i h_i hlt H locs ls hP hD hS hl; exact absurd hlt (Nat.not_lt_zero _)
      | succ n_loop_2 ih_loop_2 =>
        intro i h_i hlt_loop_2 H locs ls hP hD hS hl
        refine lv_iload_n hx hb dX7_choose_15 rfl (lv_at hl 0 rfl) ?_
        refine lv_iload_n hx hb dX7_choose_16 rfl (lv_at hl 3 rfl) ?_
        refine lv_icmp_ge (tgt := 36) hx hb dX7_choose_17 (by decide) (fun c_3 => ?_) (fun c_3 => ?_)
        · -- 17 t
          have fc_3 : j ≤ i := nf_le (by omega) (by omega) c_3
          obtain rfl : j = i := by omega
          replace hP : va_P D vwCl [] H := hP
          replace hD : va_D A [] := hD
          refine lv_iload_n hx hb dX7_choose_36 rfl (lv_at hl 1 rfl) ?_
          exact xreti C () ((if_neg (by omega)).symm) hP hD hS (Nat.le_of_ble_eq_true rfl) (Nat.le_of_ble_eq_true rfl) rfl dX7_choose_37
        · -- 17 f
          have fc_3 : i < j := nf_nle (by omega) (by omega) c_3
          refine lv_iload_n hx hb dX7_choose_20 rfl (lv_at hl 1 rfl) ?_
          refine lv_iload_n hx hb dX7_choose_21 rfl (lv_at hl 2 rfl) ?_
          refine lv_iload_n hx hb dX7_choose_22 rfl (lv_at hl 0 rfl) ?_
          refine lv_isub hx hb dX7_choose_23 ?_
          refine lv_topi (nm_r (e' := nI (mm - i)) (pk_sub (by omega)) ?_)
          refine lv_imul hx hb dX7_choose_24 ?_
          refine lv_iload_n hx hb dX7_choose_25 rfl (lv_at hl 0 rfl) ?_
          refine lv_iconst (v := nI 1) hx hb dX7_choose_26 (by decide) ?_
          refine lv_iadd hx hb dX7_choose_27 ?_
          refine lv_topi (nm_r (e' := nI (i + 1)) (nI_add _ _) ?_)
          refine lv_idiv hx hb dX7_choose_28 (nI_ne0 (by omega) (by omega)) ?_
          refine lv_topi (nm_r (e' := chW mm (i + 1)) rfl ?_)
          refine lv_istore_n (lv' := [(2, .int (chW mm (i + 1))), (3, .int (nI i)), (0, .int (nI mm)), (1, .int (nI j))]) hx hb dX7_choose_29 rfl hl (by decide) rfl ?_
          clear hl
          try clear ls
          intro ls hl
          refine lv_iinc (v := nI (i + 1)) (lv' := [(3, .int (nI (i + 1))), (2, .int (chW mm (i + 1))), (0, .int (nI mm)), (1, .int (nI j))]) hx hb dX7_choose_30 hl (k := 1) rfl (nI_add i 1) (by decide) rfl ?_
          clear hl
          try clear ls
          intro ls hl
          refine lv_goto (tgt := 15) hx hb dX7_choose_33 (by decide) ?_
          exact ih_loop_2 (i + 1) (by omega) (by omega) H locs ls hP hD hS (lv_sub hl [0, 1, 2, 3] rfl)
    exact loop_2 _ 0 (by omega) (Nat.lt_succ_self _) H locs ls hP hD hS (lv_sub hl [0, 1, 2, 3] rfl)
  · -- 6 f
    have fc_1 : mm < j := nf_nle (by omega) (by omega) c_1
    refine lv_iconst (v := nI 0) hx hb dX7_choose_9 (by decide) ?_
    exact xreti C () ((if_pos fc_1).symm) hP hD hS (Nat.le_of_ble_eq_true rfl) (Nat.le_of_ble_eq_true rfl) rfl dX7_choose_10

set_option maxHeartbeats 4000000 in
set_option maxRecDepth 100000 in
theorem c_X7_countCarried (l : Launch) (D : va_G) (cs : Nat → ClassId) (h sm ca n k al be : Nat) (ea pr se : Int32) (i : Nat) (hn : n ≤ 8) (hk : k < n) (hal : al ≤ k) (hi : i < n) : xMet l D cs yX7_countCarried cX7_countCarried 4 (some .int) ({ frames := 1, cells := 0, slots := 0, locals := 23 } : Room) [.ref h, .int (nI i)] [(h, .inr (7, [.int (nI n), .int (nI k), .int (nI al), .int (nI be), .int ea, .int pr, .ref sm, .int se, .ref ca]))] (xQi D (fun (r : Int32) (_u : Unit) => r = ccS i n k al (k + 1 - al)) (fun (_u : Unit) => [(h, .inr (7, [.int (nI n), .int (nI k), .int (nI al), .int (nI be), .int ea, .int pr, .ref sm, .int se, .ref ca]))])) := by
  refine xMet.intro (by decide) (Nat.le_of_ble_eq_true rfl) ?_
  intro p e s m args below meth c A ls C hP hD hS hl
  have hx := C.1
  have hb := C.2.1
  have hz := C.2.2.2.2.1
  have hown := C.2.2.2.1
  have hA := C.2.2.2.2.2.2.2.2.2
  have hAO := C.2.2.2.2.2.2.2.2.1.2.2
  replace hl : lv_has ls 4 [(0, .ref h), (1, .int (nI i))] := hl
  obtain ⟨H, hH⟩ : ∃ H, H = s.heap := ⟨_, rfl⟩
  replace hP : va_P D vwCl [(h, .inr (7, [.int (nI n), .int (nI k), .int (nI al), .int (nI be), .int ea, .int pr, .ref sm, .int se, .ref ca]))] H := by rw [hH]; exact hP
  replace hS : va_S A s.heap H [] := by rw [hH]; exact hS
  obtain ⟨locs, hlocs⟩ : ∃ z : List Loc, z = [] := ⟨_, rfl⟩
  rw [← hlocs] at hS
  suffices hW : W p l e ({ frames := 1, cells := 0, slots := 0, locals := 23 } : Room) s m args below meth c H locs 0 0 (MQ below ((xQi D (fun (r : Int32) (_u : Unit) => r = ccS i n k al (k + 1 - al)) (fun (_u : Unit) => [(h, .inr (7, [.int (nI n), .int (nI k), .int (nI al), .int (nI be), .int ea, .int pr, .ref sm, .int se, .ref ca]))])) A) args s 0 0 A) (F0 m 0 ls []) by rw [hlocs, hH] at hW; exact hW
  clear hH hlocs
  refine lv_iconst (v := nI 0) hx hb dX7_countCarried_0 (by decide) ?_
  refine lv_istore_n (lv' := [(2, .int (nI 0)), (0, .ref h), (1, .int (nI i))]) hx hb dX7_countCarried_1 rfl hl (by decide) rfl ?_
  clear hl
  try clear ls
  intro ls hl
  refine lv_aload_n hx hb dX7_countCarried_2 rfl (lv_at hl 1 rfl) ?_
  refine xget C hP 0 rfl rfl zuX7 2 (by decide) zw1_85 rfl dX7_countCarried_3 ?_
  refine lv_istore_n (lv' := [(3, .int (nI al)), (2, .int (nI 0)), (0, .ref h), (1, .int (nI i))]) hx hb dX7_countCarried_6 rfl hl (by decide) rfl ?_
  clear hl
  try clear ls
  intro ls hl
  have loop_1 : ∀ (n_loop_1 : Nat) (d : Nat), (d ≤ k + 1 - al) → k + 1 - al - d < n_loop_1 → ∀ (H : Heap) (locs : List Loc) (ls : Array Slot), va_P D vwCl [(h, .inr (7, [.int (nI n), .int (nI k), .int (nI al), .int (nI be), .int ea, .int pr, .ref sm, .int se, .ref ca]))] H → va_D A [(h, .inr (7, [.int (nI n), .int (nI k), .int (nI al), .int (nI be), .int ea, .int pr, .ref sm, .int se, .ref ca]))] → va_S A s.heap H locs → lv_has ls 4 [(3, .int (nI (al + d))), (2, .int (ccS i n k al d)), (0, .ref h), (1, .int (nI i))] → W p l e ({ frames := 1, cells := 0, slots := 0, locals := 23 } : Room) s m args below meth c H locs 0 0 (MQ below ((xQi D (fun (r : Int32) (_u : Unit) => r = ccS i n k al (k + 1 - al)) (fun (_u : Unit) => [(h, .inr (7, [.int (nI n), .int (nI k), .int (nI al), .int (nI be), .int ea, .int pr, .ref sm, .int se, .ref ca]))])) A) args s 0 0 A) (F0 m 7 ls []) := by
    intro n_loop_1
    induction n_loop_1 with
    | zero => intro d h_d hlt H locs ls hP hD hS hl; exact absurd hlt (Nat.not_lt_zero _)
    | succ n_loop_1 ih_loop_1 =>
      intro d h_d hlt_loop_1 H locs ls hP hD hS hl
      refine lv_iload_n hx hb dX7_countCarried_7 rfl (lv_at hl 0 rfl) ?_
      refine lv_aload_n hx hb dX7_countCarried_8 rfl (lv_at hl 2 rfl) ?_
      refine xget C hP 0 rfl rfl zuX7 1 (by decide) zw1_83 rfl dX7_countCarried_9 ?_
      refine lv_icmp_gt (tgt := 47) hx hb dX7_countCarried_12 (by decide) (fun c_2 => ?_) (fun c_2 => ?_)
      · -- 12 t
        have fc_2 : k < al + d := nf_lt (by omega) (by omega) c_2
        obtain rfl : k + 1 - al = d := by omega
        replace hP : va_P D vwCl [(h, .inr (7, [.int (nI n), .int (nI k), .int (nI al), .int (nI be), .int ea, .int pr, .ref sm, .int se, .ref ca]))] H := hP
        replace hD : va_D A [(h, .inr (7, [.int (nI n), .int (nI k), .int (nI al), .int (nI be), .int ea, .int pr, .ref sm, .int se, .ref ca]))] := hD
        refine lv_iload_n hx hb dX7_countCarried_47 rfl (lv_at hl 1 rfl) ?_
        exact xreti C () rfl hP hD hS (Nat.le_of_ble_eq_true rfl) (Nat.le_of_ble_eq_true rfl) rfl dX7_countCarried_48
      · -- 12 f
        have fc_2 : al + d ≤ k := nf_nlt (by omega) (by omega) c_2
        refine lv_iload_n hx hb dX7_countCarried_15 rfl (lv_at hl 1 rfl) ?_
        refine lv_iload_n hx hb dX7_countCarried_16 rfl (lv_at hl 3 rfl) ?_
        refine lv_iload_n hx hb dX7_countCarried_17 rfl (lv_at hl 0 rfl) ?_
        refine xi (wr := [(h, .inr (7, [.int (nI n), .int (nI k), .int (nI al), .int (nI be), .int ea, .int pr, .ref sm, .int se, .ref ca]))]) (xS (As := [.int (nI i), .int (nI (al + d))]) (rest := [.int (ccS i n k al d)]) C (c_X7_choose l D cs i (al + d) (by first | omega | decide) (by first | omega | decide)) kX7_49 hP hD [] rfl (by decide) ⟨Nat.le_of_ble_eq_true rfl, Nat.le_of_ble_eq_true rfl⟩ rfl hl.1 rfl (Nat.le_of_ble_eq_true rfl) dX7_countCarried_18 ⟨Nat.le_of_ble_eq_true rfl, Nat.le_of_ble_eq_true rfl⟩) hP hD hS hA [] [0] rfl rfl (by decide) (by decide) ?_
        clear hP hD hS
        try clear locs
        try clear H
        intro r_3 u_4 H locs hw_r_3 hP hD hS
        have hw_r_3 : r_3 = chF i (al + d) := hw_r_3
        refine W.widen (k := 0) (n := 0) (Nat.le_of_ble_eq_true rfl) (Nat.le_of_ble_eq_true rfl) ?_
        replace hP : va_P D vwCl [(h, .inr (7, [.int (nI n), .int (nI k), .int (nI al), .int (nI be), .int ea, .int pr, .ref sm, .int se, .ref ca]))] H := hP
        replace hD : va_D A [(h, .inr (7, [.int (nI n), .int (nI k), .int (nI al), .int (nI be), .int ea, .int pr, .ref sm, .int se, .ref ca]))] := hD
        subst hw_r_3
        refine lv_aload_n hx hb dX7_countCarried_21 rfl (lv_at hl 2 rfl) ?_
        refine xget C hP 0 rfl rfl zuX7 0 (by decide) zw1_78 rfl dX7_countCarried_22 ?_
        refine lv_iconst (v := nI 1) hx hb dX7_countCarried_25 (by decide) ?_
        refine lv_isub hx hb dX7_countCarried_26 ?_
        refine lv_topi (nm_r (e' := nI (n - 1)) (pk_sub (by omega)) ?_)
        refine lv_iload_n hx hb dX7_countCarried_27 rfl (lv_at hl 3 rfl) ?_
        refine lv_isub hx hb dX7_countCarried_28 ?_
        refine lv_topi (nm_r (e' := nI ((n - 1) - i)) (pk_sub (by omega)) ?_)
        refine lv_aload_n hx hb dX7_countCarried_29 rfl (lv_at hl 2 rfl) ?_
        refine xget C hP 0 rfl rfl zuX7 1 (by decide) zw1_83 rfl dX7_countCarried_30 ?_
        refine lv_iload_n hx hb dX7_countCarried_33 rfl (lv_at hl 0 rfl) ?_
        refine lv_isub hx hb dX7_countCarried_34 ?_
        refine lv_topi (nm_r (e' := nI (k - (al + d))) (pk_sub (by omega)) ?_)
        refine xi (wr := [(h, .inr (7, [.int (nI n), .int (nI k), .int (nI al), .int (nI be), .int ea, .int pr, .ref sm, .int se, .ref ca]))]) (xS (As := [.int (nI ((n - 1) - i)), .int (nI (k - (al + d)))]) (rest := [.int (chF i (al + d)), .int (ccS i n k al d)]) C (c_X7_choose l D cs ((n - 1) - i) (k - (al + d)) (by first | omega | decide) (by first | omega | decide)) kX7_49 hP hD [] rfl (by decide) ⟨Nat.le_of_ble_eq_true rfl, Nat.le_of_ble_eq_true rfl⟩ rfl hl.1 rfl (Nat.le_of_ble_eq_true rfl) dX7_countCarried_35 ⟨Nat.le_of_ble_eq_true rfl, Nat.le_of_ble_eq_true rfl⟩) hP hD hS hA [] [0] rfl rfl (by decide) (by decide) ?_
        clear hP hD hS
        try clear locs
        try clear H
        intro r_5 u_6 H locs hw_r_5 hP hD hS
        have hw_r_5 : r_5 = chF ((n - 1) - i) (k - (al + d)) := hw_r_5
        refine W.widen (k := 0) (n := 0) (Nat.le_of_ble_eq_true rfl) (Nat.le_of_ble_eq_true rfl) ?_
        replace hP : va_P D vwCl [(h, .inr (7, [.int (nI n), .int (nI k), .int (nI al), .int (nI be), .int ea, .int pr, .ref sm, .int se, .ref ca]))] H := hP
        replace hD : va_D A [(h, .inr (7, [.int (nI n), .int (nI k), .int (nI al), .int (nI be), .int ea, .int pr, .ref sm, .int se, .ref ca]))] := hD
        subst hw_r_5
        refine lv_imul hx hb dX7_countCarried_38 ?_
        refine lv_iadd hx hb dX7_countCarried_39 ?_
        refine lv_topi (nm_r (e' := ccS i n k al (d + 1)) rfl ?_)
        refine lv_istore_n (lv' := [(2, .int (ccS i n k al (d + 1))), (3, .int (nI (al + d))), (0, .ref h), (1, .int (nI i))]) hx hb dX7_countCarried_40 rfl hl (by decide) rfl ?_
        clear hl
        try clear ls
        intro ls hl
        refine lv_iinc (v := nI ((al + d) + 1)) (lv' := [(3, .int (nI ((al + d) + 1))), (2, .int (ccS i n k al (d + 1))), (0, .ref h), (1, .int (nI i))]) hx hb dX7_countCarried_41 hl (k := 1) rfl (nI_add (al + d) 1) (by decide) rfl ?_
        clear hl
        try clear ls
        intro ls hl
        refine lv_goto (tgt := 7) hx hb dX7_countCarried_44 (by decide) ?_
        exact ih_loop_1 (d + 1) (by omega) (by omega) H locs ls hP hD hS (lv_sub hl [0, 1, 2, 3] rfl)
  exact loop_1 _ 0 (by omega) (Nat.lt_succ_self _) H locs ls hP hD hS (lv_sub hl [0, 1, 2, 3] rfl)

set_option maxHeartbeats 4000000 in
set_option maxRecDepth 100000 in
theorem c_X7_listSamples (l : Launch) (D : va_G) (cs : Nat → ClassId) (h sm ca n k al be : Nat) (ea pr se : Int32) (q : Nat) (f : Nat → Option Nat) (g : Nat → Int32) (i : Nat) (hn : n ≤ 8) (hi : i < 8) (hf : f i = some q) : xMet l D cs yX7_listSamples cX7_listSamples 4 none ({ frames := 2, cells := 0, slots := 0, locals := 43 } : Room) [.ref h, .int (nI i)] [(h, .inr (7, [.int (nI n), .int (nI k), .int (nI al), .int (nI be), .int ea, .int pr, .ref sm, .int se, .ref ca])), (sm, .inl (cs 5, 8, .inr (.inr (.inr (.inr f))))), (q, .inl (cs 0, 35, .inl g))] (xQv D (fun (g2 : (Nat → Int32)) => True) (fun (g2 : (Nat → Int32)) => [(h, .inr (7, [.int (nI n), .int (nI k), .int (nI al), .int (nI be), .int ea, .int pr, .ref sm, .int se, .ref ca])), (sm, .inl (cs 5, 8, .inr (.inr (.inr (.inr f))))), (q, .inl (cs 0, 35, .inl g2))])) := by
  refine xMet.intro (by decide) (Nat.le_of_ble_eq_true rfl) ?_
  intro p e s m args below meth c A ls C hP hD hS hl
  have hx := C.1
  have hb := C.2.1
  have hz := C.2.2.2.2.1
  have hown := C.2.2.2.1
  have hA := C.2.2.2.2.2.2.2.2.2
  have hAO := C.2.2.2.2.2.2.2.2.1.2.2
  replace hl : lv_has ls 4 [(0, .ref h), (1, .int (nI i))] := hl
  obtain ⟨H, hH⟩ : ∃ H, H = s.heap := ⟨_, rfl⟩
  replace hP : va_P D vwCl [(h, .inr (7, [.int (nI n), .int (nI k), .int (nI al), .int (nI be), .int ea, .int pr, .ref sm, .int se, .ref ca])), (sm, .inl (cs 5, 8, .inr (.inr (.inr (.inr f))))), (q, .inl (cs 0, 35, .inl g))] H := by rw [hH]; exact hP
  replace hS : va_S A s.heap H [] := by rw [hH]; exact hS
  obtain ⟨locs, hlocs⟩ : ∃ z : List Loc, z = [] := ⟨_, rfl⟩
  rw [← hlocs] at hS
  suffices hW : W p l e ({ frames := 2, cells := 0, slots := 0, locals := 43 } : Room) s m args below meth c H locs 0 0 (MQ below ((xQv D (fun (g2 : (Nat → Int32)) => True) (fun (g2 : (Nat → Int32)) => [(h, .inr (7, [.int (nI n), .int (nI k), .int (nI al), .int (nI be), .int ea, .int pr, .ref sm, .int se, .ref ca])), (sm, .inl (cs 5, 8, .inr (.inr (.inr (.inr f))))), (q, .inl (cs 0, 35, .inl g2))])) A) args s 0 0 A) (F0 m 0 ls []) by rw [hlocs, hH] at hW; exact hW
  clear hH hlocs
  obtain ⟨P, hPe, hP1, hP2⟩ : ∃ P : Nat, P = 2 ^ n ∧ 1 ≤ P ∧ P ≤ 256 := ⟨2 ^ n, rfl, Nat.one_le_two_pow, Nat.le_trans (Nat.pow_le_pow_right (by decide) hn) (by decide)⟩
  refine lv_iconst (v := nI 0) hx hb dX7_listSamples_0 (by decide) ?_
  refine lv_istore_n (lv' := [(2, .int (nI 0)), (0, .ref h), (1, .int (nI i))]) hx hb dX7_listSamples_1 rfl hl (by decide) rfl ?_
  clear hl
  try clear ls
  intro ls hl
  refine lv_iconst (v := nI 0) hx hb dX7_listSamples_2 (by decide) ?_
  refine lv_istore_n (lv' := [(3, .int (nI 0)), (2, .int (nI 0)), (0, .ref h), (1, .int (nI i))]) hx hb dX7_listSamples_3 rfl hl (by decide) rfl ?_
  clear hl
  try clear ls
  intro ls hl
  have loop_1 : ∀ (n_loop_1 : Nat) (b : Nat) (fd : Nat) (g1 : Nat → Int32), (b ≤ P) → (fd ≤ 35) → P - b < n_loop_1 → ∀ (H : Heap) (locs : List Loc) (ls : Array Slot), va_P D vwCl [(h, .inr (7, [.int (nI n), .int (nI k), .int (nI al), .int (nI be), .int ea, .int pr, .ref sm, .int se, .ref ca])), (sm, .inl (cs 5, 8, .inr (.inr (.inr (.inr f))))), (q, .inl (cs 0, 35, .inl g1))] H → va_D A [(h, .inr (7, [.int (nI n), .int (nI k), .int (nI al), .int (nI be), .int ea, .int pr, .ref sm, .int se, .ref ca])), (sm, .inl (cs 5, 8, .inr (.inr (.inr (.inr f))))), (q, .inl (cs 0, 35, .inl g1))] → va_S A s.heap H locs → lv_has ls 4 [(3, .int (nI b)), (2, .int (nI fd)), (0, .ref h), (1, .int (nI i))] → W p l e ({ frames := 2, cells := 0, slots := 0, locals := 43 } : Room) s m args below meth c H locs 0 0 (MQ below ((xQv D (fun (g2 : (Nat → Int32)) => True) (fun (g2 : (Nat → Int32)) => [(h, .inr (7, [.int (nI n), .int (nI k), .int (nI al), .int (nI be), .int ea, .int pr, .ref sm, .int se, .ref ca])), (sm, .inl (cs 5, 8, .inr (.inr (.inr (.inr f))))), (q, .inl (cs 0, 35, .inl g2))])) A) args s 0 0 A) (F0 m 4 ls []) := by
    intro n_loop_1
    induction n_loop_1 with
    | zero => intro b fd g1 h_b hfd hlt H locs ls hP hD hS hl; exact absurd hlt (Nat.not_lt_zero _)
    | succ n_loop_1 ih_loop_1 =>
      intro b fd g1 h_b hfd hlt_loop_1 H locs ls hP hD hS hl
      refine lv_iload_n hx hb dX7_listSamples_4 rfl (lv_at hl 0 rfl) ?_
      refine lv_aload_n hx hb dX7_listSamples_5 rfl (lv_at hl 2 rfl) ?_
      refine xi (wr := [(sm, .inl (cs 5, 8, .inr (.inr (.inr (.inr f))))), (q, .inl (cs 0, 35, .inl g1))]) (xV (As := []) (rest := [.int (nI b)]) C (c_X7_allNodes l D cs h sm ca n k al be ea pr se (by first | omega | decide)) kX7_63 hP hD [0] rfl (by decide) 0 rfl rfl rfl ⟨Nat.le_of_ble_eq_true rfl, Nat.le_of_ble_eq_true rfl⟩ rfl hl.1 rfl (Nat.le_of_ble_eq_true rfl) dX7_listSamples_6 ⟨Nat.le_of_ble_eq_true rfl, Nat.le_of_ble_eq_true rfl⟩) hP hD hS hA [0] [1, 2] rfl rfl (by decide) (by decide) ?_
      clear hP hD hS
      try clear locs
      try clear H
      intro r_2 u_3 H locs hw_r_2 hP hD hS
      have hw_r_2 : r_2 = nI (2 ^ n - 1) := hw_r_2
      refine W.widen (k := 0) (n := 0) (Nat.le_of_ble_eq_true rfl) (Nat.le_of_ble_eq_true rfl) ?_
      replace hP : va_P D vwCl [(sm, .inl (cs 5, 8, .inr (.inr (.inr (.inr f))))), (q, .inl (cs 0, 35, .inl g1)), (h, .inr (7, [.int (nI n), .int (nI k), .int (nI al), .int (nI be), .int ea, .int pr, .ref sm, .int se, .ref ca]))] H := hP
      replace hD : va_D A [(sm, .inl (cs 5, 8, .inr (.inr (.inr (.inr f))))), (q, .inl (cs 0, 35, .inl g1)), (h, .inr (7, [.int (nI n), .int (nI k), .int (nI al), .int (nI be), .int ea, .int pr, .ref sm, .int se, .ref ca]))] := hD
      subst hw_r_2
      rw [← hPe]
      refine lv_icmp_gt (tgt := 45) hx hb dX7_listSamples_9 (by decide) (fun c_4 => ?_) (fun c_4 => ?_)
      · -- 9 t
        have fc_4 : P - 1 < b := nf_lt (by omega) (by omega) c_4
        exact xretv C g1 trivial (xP_map hP [2, 0, 1] rfl) (hD.sub [2, 0, 1] (by decide) rfl) hS (Nat.le_of_ble_eq_true rfl) (Nat.le_of_ble_eq_true rfl) dX7_listSamples_45
      · -- 9 f
        have fc_4 : b ≤ P - 1 := nf_nlt (by omega) (by omega) c_4
        refine lv_iload_n hx hb dX7_listSamples_12 rfl (lv_at hl 1 rfl) ?_
        refine lv_bipush (v := nI 35) hx hb dX7_listSamples_13 (by decide) ?_
        refine lv_icmp_ge (tgt := 45) hx hb dX7_listSamples_15 (by decide) (fun c_5 => ?_) (fun c_5 => ?_)
        · -- 15 t
          have fc_5 : 35 ≤ fd := nf_le (by omega) (by omega) c_5
          exact xretv C g1 trivial (xP_map hP [2, 0, 1] rfl) (hD.sub [2, 0, 1] (by decide) rfl) hS (Nat.le_of_ble_eq_true rfl) (Nat.le_of_ble_eq_true rfl) dX7_listSamples_45
        · -- 15 f
          have fc_5 : fd < 35 := nf_nle (by omega) (by omega) c_5
          refine lv_aload_n hx hb dX7_listSamples_18 rfl (lv_at hl 2 rfl) ?_
          refine lv_iload_n hx hb dX7_listSamples_19 rfl (lv_at hl 3 rfl) ?_
          refine lv_iload_n hx hb dX7_listSamples_20 rfl (lv_at hl 0 rfl) ?_
          refine xi (wr := [(sm, .inl (cs 5, 8, .inr (.inr (.inr (.inr f))))), (q, .inl (cs 0, 35, .inl g1))]) (xV (As := [.int (nI i), .int (nI b)]) (rest := []) C (c_X7_isSample l D cs h sm ca n k al be ea pr se (nI i) (nI b) (by first | omega | decide)) kX7_67 hP hD [2] rfl (by decide) 0 rfl rfl rfl ⟨Nat.le_of_ble_eq_true rfl, Nat.le_of_ble_eq_true rfl⟩ rfl hl.1 rfl (Nat.le_of_ble_eq_true rfl) dX7_listSamples_21 ⟨Nat.le_of_ble_eq_true rfl, Nat.le_of_ble_eq_true rfl⟩) hP hD hS hA [2] [0, 1] rfl rfl (by decide) (by decide) ?_
          clear hP hD hS
          try clear locs
          try clear H
          intro r_6 u_7 H locs hw_r_6 hP hD hS
          have hw_r_6 : (r_6 = nI 1 ∧ smpP n k (nI i) (nI b)) ∨ (r_6 = nI 0 ∧ ¬ smpP n k (nI i) (nI b)) := hw_r_6
          refine W.widen (k := 0) (n := 0) (Nat.le_of_ble_eq_true rfl) (Nat.le_of_ble_eq_true rfl) ?_
          replace hP : va_P D vwCl [(sm, .inl (cs 5, 8, .inr (.inr (.inr (.inr f))))), (q, .inl (cs 0, 35, .inl g1)), (h, .inr (7, [.int (nI n), .int (nI k), .int (nI al), .int (nI be), .int ea, .int pr, .ref sm, .int se, .ref ca]))] H := hP
          replace hD : va_D A [(sm, .inl (cs 5, 8, .inr (.inr (.inr (.inr f))))), (q, .inl (cs 0, 35, .inl g1)), (h, .inr (7, [.int (nI n), .int (nI k), .int (nI al), .int (nI be), .int ea, .int pr, .ref sm, .int se, .ref ca]))] := hD
          refine lv_if_eq (tgt := 39) hx hb dX7_listSamples_24 (by decide) (fun c_8 => ?_) (fun c_8 => ?_)
          · -- 24 t
            refine lv_iinc (v := nI (b + 1)) (lv' := [(3, .int (nI (b + 1))), (2, .int (nI fd)), (0, .ref h), (1, .int (nI i))]) hx hb dX7_listSamples_39 hl (k := 0) rfl (nI_add b 1) (by decide) rfl ?_
            clear hl
            try clear ls
            intro ls hl
            refine lv_goto (tgt := 4) hx hb dX7_listSamples_42 (by decide) ?_
            exact ih_loop_1 (b + 1) fd g1 (by omega) (by omega) (by omega) H locs ls (xP_map hP [2, 0, 1] rfl) (hD.sub [2, 0, 1] (by decide) rfl) hS (lv_sub hl [0, 1, 2, 3] rfl)
          · -- 24 f
            refine lv_aload_n hx hb dX7_listSamples_27 rfl (lv_at hl 2 rfl) ?_
            refine xget C hP 2 rfl rfl zuX7 6 (by decide) zw1_99 rfl dX7_listSamples_28 ?_
            refine lv_iload_n hx hb dX7_listSamples_31 rfl (lv_at hl 3 rfl) ?_
            refine xaald C hP 0 5 rfl rfl rfl i rfl (by omega) (by decide) hf dX7_listSamples_32 ?_
            refine lv_iload_n hx hb dX7_listSamples_33 rfl (lv_at hl 1 rfl) ?_
            refine lv_iload_n hx hb dX7_listSamples_34 rfl (lv_at hl 0 rfl) ?_
            refine xiast C hP hD hS 1 rfl fd rfl (by omega) (by decide) dX7_listSamples_35 ?_
            clear hP hD hS
            try clear locs
            try clear H
            intro H locs hP hD hS
            replace hP : va_P D vwCl [(sm, .inl (cs 5, 8, .inr (.inr (.inr (.inr f))))), (q, .inl (cs 0, 35, .inl (upd g1 fd (nI b)))), (h, .inr (7, [.int (nI n), .int (nI k), .int (nI al), .int (nI be), .int ea, .int pr, .ref sm, .int se, .ref ca]))] H := hP
            replace hD : va_D A [(sm, .inl (cs 5, 8, .inr (.inr (.inr (.inr f))))), (q, .inl (cs 0, 35, .inl (upd g1 fd (nI b)))), (h, .inr (7, [.int (nI n), .int (nI k), .int (nI al), .int (nI be), .int ea, .int pr, .ref sm, .int se, .ref ca]))] := hD
            refine lv_iinc (v := nI (fd + 1)) (lv' := [(2, .int (nI (fd + 1))), (3, .int (nI b)), (0, .ref h), (1, .int (nI i))]) hx hb dX7_listSamples_36 hl (k := 1) rfl (nI_add fd 1) (by decide) rfl ?_
            clear hl
            try clear ls
            intro ls hl
            refine lv_iinc (v := nI (b + 1)) (lv' := [(3, .int (nI (b + 1))), (2, .int (nI (fd + 1))), (0, .ref h), (1, .int (nI i))]) hx hb dX7_listSamples_39 hl (k := 1) rfl (nI_add b 1) (by decide) rfl ?_
            clear hl
            try clear ls
            intro ls hl
            refine lv_goto (tgt := 4) hx hb dX7_listSamples_42 (by decide) ?_
            exact ih_loop_1 (b + 1) (fd + 1) (upd g1 fd (nI b)) (by omega) (by omega) (by omega) H locs ls (xP_map hP [2, 0, 1] rfl) (hD.sub [2, 0, 1] (by decide) rfl) hS (lv_sub hl [0, 1, 2, 3] rfl)
  exact loop_1 _ 0 0 g (by omega) (by decide) (Nat.lt_succ_self _) H locs ls hP hD hS (lv_sub hl [0, 1, 2, 3] rfl)
