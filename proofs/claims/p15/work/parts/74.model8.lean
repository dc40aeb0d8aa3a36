section XROWSN
variable {p : Program} {l : Launch} {e : Env} {R : Room} {s : State} {m : MethodId} {args : Array Value} {below : List Frame} {meth : Method} {c : Code} {H : Heap} {locs : List Loc} {cells slots : Nat} {Q : State → Prop}
variable {cc : ByteArray} {y : MethodName} {nL pc i n : Nat} {ret : Option FieldType} {D : va_G} {cs : Nat → ClassId} {A : Nat → Prop} {ls : Array Slot} {rest : List Value} {ws : va_W} {a : Nat}
theorem xaaldN (C : xC p R s m args meth c y cc nL ret D cs A) (hP : va_P D vwCl ws H) (q0 t0 : Nat) {ty : FieldType} {f : Nat → Option Nat} (ha : ws[q0]? = some (a, .inl (cs t0, n, .inr (.inr (.inr (.inr f)))))) (ht : (xTY cs)[t0]? = some (cs t0, ty)) (hr : ty.isReference = true) {i : Int32} (j : Nat) (hi : i = nI j) (hj : j < n) (hn : n < 2 ^ 31) (hq : f j = none) (hdg : decode cc pc = .ok (.aaload, 1))
    (kk : W p l e R s m args below meth c H locs cells slots Q (F0 m (pc + 1) ls (.null :: rest))) : W p l e R s m args below meth c H locs cells slots Q (F0 m pc ls (.int i :: .ref a :: rest)) := by
  obtain ⟨h1, h2⟩ := xin hi hj hn
  refine W.aald (v := .null) (ty := ty) C.1 C.2.1 (hP q0 _ ha) ((C.2.2.2.2.2.2.2.2.1.1.2 t0 _ ht).1 n (fun j => va_rf (f j))) hr (fun q => by cases q) (by show ¬ (i < 0 ∨ (arrV _ _ _).slots.size ≤ _); rw [arrV_size]; exact h1) ?_ rfl rfl hdg kk
  show (arrV _ _ _).slots[_]? = _
  rw [h2, arrV_read _ _ hj, hq]
  rfl
end XROWSN

theorem dv_ne {o : Nat} (h : o < 2 ^ 30) : ¬ (nI (o + 1)).toInt64 = 0 := fun q => by
  have := congrArg Int64.toInt q
  rw [Int32.toInt_toInt64, nI_toInt (by omega)] at this
  have e : (0 : Int64).toInt = 0 := by decide
  omega
def chR (x : Int32) : Nat → Nat → Int64 → Int64 | 0, _, v => v | d + 1, o, v => chR x d (o + 1) (v * (x - nI o).toInt64 / (nI (o + 1)).toInt64)
def chV (x : Int32) (k : Nat) : Int64 := if nI k ≤ x then chR x k 0 1 else 0
theorem chR_step {x : Int32} {k o : Nat} {v : Int64} (h : o < k) : chR x (k - o) o v = chR x (k - (o + 1)) (o + 1) (v * (x - nI o).toInt64 / (nI (o + 1)).toInt64) := by
  obtain ⟨d, hd⟩ : ∃ d, k - o = d + 1 := ⟨k - o - 1, by omega⟩
  rw [hd, show k - (o + 1) = d by omega]
  rfl
def smV (n k : Nat) : Int64 := chV (nI n - nI 1) k
def wmL (b : Int64) : Nat → Int64 → Int64 | 0, v => v | t + 1, v => if 9223372036854775807 / b < v then -1 else wmL b t (v * b)
theorem wm_neg {b v : Int64} {t o : Nat} (h : o < t) (q : 9223372036854775807 / b < v) : wmL b (t - o) v = -1 := by
  obtain ⟨d, hd⟩ : ∃ d, t - o = d + 1 := ⟨t - o - 1, by omega⟩
  rw [hd]; exact if_pos q
theorem wm_step {b v : Int64} {t o : Nat} (h : o < t) (q : ¬ 9223372036854775807 / b < v) : wmL b (t - o) v = wmL b (t - (o + 1)) (v * b) := by
  obtain ⟨d, hd⟩ : ∃ d, t - o = d + 1 := ⟨t - o - 1, by omega⟩
  rw [hd, show t - (o + 1) = d by omega]; exact if_neg q
def wmN (n k t : Nat) : Int64 := wmL ((nI n).toInt64 * smV n k) t 1
theorem by_ne {n k : Nat} (hn : 2 ≤ n ∧ n ≤ 8) (hk : 1 ≤ k ∧ k < n) : ¬ (nI n).toInt64 * smV n k = 0 := by
  have h : ∀ n, n ≤ 8 → 2 ≤ n → ∀ k, k < n → 1 ≤ k → ¬ (nI n).toInt64 * smV n k = 0 := by decide +kernel
  exact h n hn.2 hn.1 k hk.2 hk.1

set_option maxHeartbeats 4000000 in
set_option maxRecDepth 100000 in
theorem c_X12_choose (l : Launch) (D : va_G) (cs : Nat → ClassId) (x : Int32) (k : Nat) (hk : k < 2 ^ 20) : xMet l D cs yX12_choose cX12_choose 5 (some .long) ({ frames := 0, cells := 0, slots := 0, locals := 0 } : Room) [.int x, .int (nI k)] [] (xQl D (fun (r : Int64) (_u : Unit) => r = chV x k) (fun (_u : Unit) => [])) := by
  refine xMet.intro (by decide) (Nat.le_of_ble_eq_true rfl) ?_
  intro p e s m args below meth c A ls C hP hD hS hl
  have hx := C.1
  have hb := C.2.1
  have hz := C.2.2.2.2.1
  have hown := C.2.2.2.1
  have hA := C.2.2.2.2.2.2.2.2.2
  have hAO := C.2.2.2.2.2.2.2.2.1.2.2
  replace hl : lv_has ls 5 [(0, .int x), (1, .int (nI k))] := hl
  obtain ⟨H, hH⟩ : ∃ H, H = s.heap := ⟨_, rfl⟩
  replace hP : va_P D vwCl [] H := by rw [hH]; exact hP
  replace hS : va_S A s.heap H [] := by rw [hH]; exact hS
  obtain ⟨locs, hlocs⟩ : ∃ z : List Loc, z = [] := ⟨_, rfl⟩
  rw [← hlocs] at hS
  suffices hW : W p l e ({ frames := 0, cells := 0, slots := 0, locals := 0 } : Room) s m args below meth c H locs 0 0 (MQ below ((xQl D (fun (r : Int64) (_u : Unit) => r = chV x k) (fun (_u : Unit) => [])) A) args s 0 0 A) (F0 m 0 ls []) by rw [hlocs, hH] at hW; exact hW
  clear hH hlocs
  refine lv_lconst (v := 1) hx hb dX12_choose_0 (by decide) ?_
  refine lv_lstore_n (lv' := [(2, .long 1), (0, .int x), (1, .int (nI k))]) hx hb dX12_choose_1 rfl hl (by decide) rfl ?_
  clear hl
  try clear ls
  intro ls hl
  refine lv_iconst (v := nI 0) hx hb dX12_choose_2 (by decide) ?_
  refine lv_istore (lv' := [(4, .int (nI 0)), (2, .long 1), (0, .int x), (1, .int (nI k))]) hx hb dX12_choose_3 hl (by decide) rfl ?_
  clear hl
  try clear ls
  intro ls hl
  have loop_1 : ∀ (n_loop_1 : Nat) (o : Nat) (v9 : Int64), (o ≤ k) → (chR x (k - o) o v9 = chR x k 0 1) → k - o < n_loop_1 → ∀ (H : Heap) (locs : List Loc) (ls : Array Slot), va_P D vwCl [] H → va_D A [] → va_S A s.heap H locs → lv_has ls 5 [(4, .int (nI o)), (2, .long v9), (0, .int x), (1, .int (nI k))] → W p l e ({ frames := 0, cells := 0, slots := 0, locals := 0 } : Room) s m args below meth c H locs 0 0 (MQ below ((xQl D (fun (r : Int64) (_u : Unit) => r = chV x k) (fun (_u : Unit) => [])) A) args s 0 0 A) (F0 m 5 ls []) := by
    intro n_loop_1
    induction n_loop_1 with
    | zero => intro o v9 h_o hv9 hlt H locs ls hP hD hS hl; exact absurd hlt (Nat.not_lt_zero _)
    | succ n_loop_1 ih_loop_1 =>
      intro o v9 h_o hv9 hlt_loop_1 H locs ls hP hD hS hl
      refine lv_iload hx hb dX12_choose_5 (lv_at hl 0 rfl) ?_
      refine lv_iload_n hx hb dX12_choose_7 rfl (lv_at hl 3 rfl) ?_
      refine lv_icmp_ge (tgt := 31) hx hb dX12_choose_8 (by decide) (fun c_2 => ?_) (fun c_2 => ?_)
      · -- 8 t
        have fc_2 : k ≤ o := nf_le (by omega) (by omega) c_2
        refine lv_iload_n hx hb dX12_choose_31 rfl (lv_at hl 3 rfl) ?_
        refine lv_if_lt (tgt := 40) hx hb dX12_choose_32 (by decide) (fun c => absurd c (nI_pos (by omega))) (fun _ => ?_)
        refine lv_iload_n hx hb dX12_choose_35 rfl (lv_at hl 3 rfl) ?_
        refine lv_iload_n hx hb dX12_choose_36 rfl (lv_at hl 2 rfl) ?_
        refine lv_icmp_le (tgt := 44) hx hb dX12_choose_37 (by decide) (fun c_3 => ?_) (fun c_3 => ?_)
        · -- 37 t
          refine lv_lload_n hx hb dX12_choose_44 rfl (lv_at hl 1 rfl) ?_
          exact xretl C () (by have qq : o = k := (by omega); subst qq; rw [Nat.sub_self] at hv9; exact Eq.trans hv9 (if_pos c_3).symm) hP hD hS (Nat.le_of_ble_eq_true rfl) (Nat.le_of_ble_eq_true rfl) dX12_choose_45
        · -- 37 f
          refine lv_lconst (v := 0) hx hb dX12_choose_40 (by decide) ?_
          refine lv_goto (tgt := 45) hx hb dX12_choose_41 (by decide) ?_
          exact xretl C () (by have qq : o = k := (by omega); subst qq; rw [Nat.sub_self] at hv9; exact (if_neg c_3).symm) hP hD hS (Nat.le_of_ble_eq_true rfl) (Nat.le_of_ble_eq_true rfl) dX12_choose_45
      · -- 8 f
        have fc_2 : o < k := nf_nle (by omega) (by omega) c_2
        refine lv_lload_n hx hb dX12_choose_11 rfl (lv_at hl 1 rfl) ?_
        refine lv_iload_n hx hb dX12_choose_12 rfl (lv_at hl 2 rfl) ?_
        refine lv_iload hx hb dX12_choose_13 (lv_at hl 0 rfl) ?_
        refine lv_isub hx hb dX12_choose_15 ?_
        refine lv_i2l hx hb dX12_choose_16 rfl ?_
        refine lv_lmul hx hb dX12_choose_17 ?_
        refine lv_iload hx hb dX12_choose_18 (lv_at hl 0 rfl) ?_
        refine lv_iconst (v := nI 1) hx hb dX12_choose_20 (by decide) ?_
        refine lv_iadd hx hb dX12_choose_21 ?_
        refine lv_topi (nm_r (e' := nI (o + 1)) (nI_add _ _) ?_)
        refine lv_i2l hx hb dX12_choose_22 rfl ?_
        refine lv_ldiv hx hb dX12_choose_23 (dv_ne (by omega)) ?_
        refine lv_lstore_n (lv' := [(2, .long ((v9 * ((x - (nI o)).toInt64)) / ((nI (o + 1)).toInt64))), (4, .int (nI o)), (0, .int x), (1, .int (nI k))]) hx hb dX12_choose_24 rfl hl (by decide) rfl ?_
        clear hl
        try clear ls
        intro ls hl
        refine lv_iinc (v := nI (o + 1)) (lv' := [(4, .int (nI (o + 1))), (2, .long ((v9 * ((x - (nI o)).toInt64)) / ((nI (o + 1)).toInt64))), (0, .int x), (1, .int (nI k))]) hx hb dX12_choose_25 hl (k := 1) rfl (nI_add o 1) (by decide) rfl ?_
        clear hl
        try clear ls
        intro ls hl
        refine lv_goto (tgt := 5) hx hb dX12_choose_28 (by decide) ?_
        exact ih_loop_1 (o + 1) ((v9 * ((x - (nI o)).toInt64)) / ((nI (o + 1)).toInt64)) (by omega) (by rw [← hv9]; exact (chR_step (by omega)).symm) (by omega) H locs ls hP hD hS (lv_sub hl [0, 1, 2, 3] rfl)
  exact loop_1 _ 0 1 (by omega) rfl (Nat.lt_succ_self _) H locs ls hP hD hS (lv_sub hl [0, 1, 2, 3] rfl)

set_option maxHeartbeats 4000000 in
set_option maxRecDepth 100000 in
theorem c_X12_samples (l : Launch) (D : va_G) (cs : Nat → ClassId) (hm ms mkp mtr mas mso mon mot man mst msm mtb mti mfr mbn mbs mde maa mab mba mbb : Nat) (n k al be km en : Nat) (ea pr nq po th xd sF sN sS ig : Int32) (xa xb : Int64) (hn : 2 ≤ n ∧ n ≤ 8) (hkn : 1 ≤ k ∧ k < n) : xMet l D cs yX12_samples cX12_samples 1 (some .long) ({ frames := 1, cells := 0, slots := 0, locals := 24 } : Room) [.ref hm] [(hm, .inr (12, [.ref ms, .ref mkp, .int (nI km), .ref mtr, .int (nI n), .int (nI k), .int (nI al), .int (nI be), .int ea, .int pr, .ref mas, .int nq, .int po, .int (nI en), .ref mso, .ref mon, .ref mot, .ref man, .int th, .int xd, .ref mst, .ref msm, .ref mtb, .ref mti, .ref mfr, .ref mbn, .ref mbs, .ref mde, .int sF, .int sN, .int sS, .int ig, .long xa, .long xb, .ref maa, .ref mab, .ref mba, .ref mbb]))] (xQl D (fun (r : Int64) (_u : Unit) => r = smV n k) (fun (_u : Unit) => [(hm, .inr (12, [.ref ms, .ref mkp, .int (nI km), .ref mtr, .int (nI n), .int (nI k), .int (nI al), .int (nI be), .int ea, .int pr, .ref mas, .int nq, .int po, .int (nI en), .ref mso, .ref mon, .ref mot, .ref man, .int th, .int xd, .ref mst, .ref msm, .ref mtb, .ref mti, .ref mfr, .ref mbn, .ref mbs, .ref mde, .int sF, .int sN, .int sS, .int ig, .long xa, .long xb, .ref maa, .ref mab, .ref mba, .ref mbb]))])) := by
  refine xMet.intro (by decide) (Nat.le_of_ble_eq_true rfl) ?_
  intro p e s m args below meth c A ls C hP hD hS hl
  have hx := C.1
  have hb := C.2.1
  have hz := C.2.2.2.2.1
  have hown := C.2.2.2.1
  have hA := C.2.2.2.2.2.2.2.2.2
  have hAO := C.2.2.2.2.2.2.2.2.1.2.2
  replace hl : lv_has ls 1 [(0, .ref hm)] := hl
  obtain ⟨H, hH⟩ : ∃ H, H = s.heap := ⟨_, rfl⟩
  replace hP : va_P D vwCl [(hm, .inr (12, [.ref ms, .ref mkp, .int (nI km), .ref mtr, .int (nI n), .int (nI k), .int (nI al), .int (nI be), .int ea, .int pr, .ref mas, .int nq, .int po, .int (nI en), .ref mso, .ref mon, .ref mot, .ref man, .int th, .int xd, .ref mst, .ref msm, .ref mtb, .ref mti, .ref mfr, .ref mbn, .ref mbs, .ref mde, .int sF, .int sN, .int sS, .int ig, .long xa, .long xb, .ref maa, .ref mab, .ref mba, .ref mbb]))] H := by rw [hH]; exact hP
  replace hS : va_S A s.heap H [] := by rw [hH]; exact hS
  obtain ⟨locs, hlocs⟩ : ∃ z : List Loc, z = [] := ⟨_, rfl⟩
  rw [← hlocs] at hS
  suffices hW : W p l e ({ frames := 1, cells := 0, slots := 0, locals := 24 } : Room) s m args below meth c H locs 0 0 (MQ below ((xQl D (fun (r : Int64) (_u : Unit) => r = smV n k) (fun (_u : Unit) => [(hm, .inr (12, [.ref ms, .ref mkp, .int (nI km), .ref mtr, .int (nI n), .int (nI k), .int (nI al), .int (nI be), .int ea, .int pr, .ref mas, .int nq, .int po, .int (nI en), .ref mso, .ref mon, .ref mot, .ref man, .int th, .int xd, .ref mst, .ref msm, .ref mtb, .ref mti, .ref mfr, .ref mbn, .ref mbs, .ref mde, .int sF, .int sN, .int sS, .int ig, .long xa, .long xb, .ref maa, .ref mab, .ref mba, .ref mbb]))])) A) args s 0 0 A) (F0 m 0 ls []) by rw [hlocs, hH] at hW; exact hW
  clear hH hlocs
  refine lv_aload_n hx hb dX12_samples_0 rfl (lv_at hl 0 rfl) ?_
  refine xget C hP 0 rfl rfl zuX12 4 (by decide) zw5_217 rfl dX12_samples_1 ?_
  refine lv_iconst (v := nI 1) hx hb dX12_samples_4 (by decide) ?_
  refine lv_isub hx hb dX12_samples_5 ?_
  refine lv_aload_n hx hb dX12_samples_6 rfl (lv_at hl 0 rfl) ?_
  refine xget C hP 0 rfl rfl zuX12 5 (by decide) zw5_218 rfl dX12_samples_7 ?_
  refine xl (wr := [(hm, .inr (12, [.ref ms, .ref mkp, .int (nI km), .ref mtr, .int (nI n), .int (nI k), .int (nI al), .int (nI be), .int ea, .int pr, .ref mas, .int nq, .int po, .int (nI en), .ref mso, .ref mon, .ref mot, .ref man, .int th, .int xd, .ref mst, .ref msm, .ref mtb, .ref mti, .ref mfr, .ref mbn, .ref mbs, .ref mde, .int sF, .int sN, .int sS, .int ig, .long xa, .long xb, .ref maa, .ref mab, .ref mba, .ref mbb]))]) (xS (As := [.int ((nI n) - (nI 1)), .int (nI k)]) (rest := []) C (c_X12_choose l D cs ((nI n) - (nI 1)) k (by omega)) kX12_176 hP hD [] rfl (by decide +kernel) ⟨Nat.le_of_ble_eq_true rfl, Nat.le_of_ble_eq_true rfl⟩ rfl hl.1 rfl (Nat.le_of_ble_eq_true rfl) dX12_samples_10 ⟨Nat.le_of_ble_eq_true rfl, Nat.le_of_ble_eq_true rfl⟩) hP hD hS hA [] [0] rfl rfl (by decide +kernel) (by decide +kernel) ?_
  clear hP hD hS
  try clear locs
  try clear H
  intro r_1 u_2 H locs hw_r_1 hP hD hS
  have hw_r_1 : r_1 = chV ((nI n) - (nI 1)) k := hw_r_1
  refine W.widen (k := 0) (n := 0) (Nat.le_of_ble_eq_true rfl) (Nat.le_of_ble_eq_true rfl) ?_
  replace hP : va_P D vwCl [(hm, .inr (12, [.ref ms, .ref mkp, .int (nI km), .ref mtr, .int (nI n), .int (nI k), .int (nI al), .int (nI be), .int ea, .int pr, .ref mas, .int nq, .int po, .int (nI en), .ref mso, .ref mon, .ref mot, .ref man, .int th, .int xd, .ref mst, .ref msm, .ref mtb, .ref mti, .ref mfr, .ref mbn, .ref mbs, .ref mde, .int sF, .int sN, .int sS, .int ig, .long xa, .long xb, .ref maa, .ref mab, .ref mba, .ref mbb]))] H := hP
  replace hD : va_D A [(hm, .inr (12, [.ref ms, .ref mkp, .int (nI km), .ref mtr, .int (nI n), .int (nI k), .int (nI al), .int (nI be), .int ea, .int pr, .ref mas, .int nq, .int po, .int (nI en), .ref mso, .ref mon, .ref mot, .ref man, .int th, .int xd, .ref mst, .ref msm, .ref mtb, .ref mti, .ref mfr, .ref mbn, .ref mbs, .ref mde, .int sF, .int sN, .int sS, .int ig, .long xa, .long xb, .ref maa, .ref mab, .ref mba, .ref mbb]))] := hD
  exact xretl C () hw_r_1 hP hD hS (Nat.le_of_ble_eq_true rfl) (Nat.le_of_ble_eq_true rfl) dX12_samples_13

set_option maxHeartbeats 4000000 in
set_option maxRecDepth 100000 in
theorem c_X12_waysOf (l : Launch) (D : va_G) (cs : Nat → ClassId) (hm ms mkp mtr mas mso mon mot man mst msm mtb mti mfr mbn mbs mde maa mab mba mbb : Nat) (n k al be km en : Nat) (ea pr nq po th xd sF sN sS ig : Int32) (xa xb : Int64) (t : Nat) (hn : 2 ≤ n ∧ n ≤ 8) (hkn : 1 ≤ k ∧ k < n) (ht : t ≤ 12) : xMet l D cs yX12_waysOf cX12_waysOf 7 (some .long) ({ frames := 2, cells := 0, slots := 0, locals := 44 } : Room) [.ref hm, .int (nI t)] [(hm, .inr (12, [.ref ms, .ref mkp, .int (nI km), .ref mtr, .int (nI n), .int (nI k), .int (nI al), .int (nI be), .int ea, .int pr, .ref mas, .int nq, .int po, .int (nI en), .ref mso, .ref mon, .ref mot, .ref man, .int th, .int xd, .ref mst, .ref msm, .ref mtb, .ref mti, .ref mfr, .ref mbn, .ref mbs, .ref mde, .int sF, .int sN, .int sS, .int ig, .long xa, .long xb, .ref maa, .ref mab, .ref mba, .ref mbb]))] (xQl D (fun (r : Int64) (_u : Unit) => r = wmN n k t) (fun (_u : Unit) => [(hm, .inr (12, [.ref ms, .ref mkp, .int (nI km), .ref mtr, .int (nI n), .int (nI k), .int (nI al), .int (nI be), .int ea, .int pr, .ref mas, .int nq, .int po, .int (nI en), .ref mso, .ref mon, .ref mot, .ref man, .int th, .int xd, .ref mst, .ref msm, .ref mtb, .ref mti, .ref mfr, .ref mbn, .ref mbs, .ref mde, .int sF, .int sN, .int sS, .int ig, .long xa, .long xb, .ref maa, .ref mab, .ref mba, .ref mbb]))])) := by
  refine xMet.intro (by decide) (Nat.le_of_ble_eq_true rfl) ?_
  intro p e s m args below meth c A ls C hP hD hS hl
  have hx := C.1
  have hb := C.2.1
  have hz := C.2.2.2.2.1
  have hown := C.2.2.2.1
  have hA := C.2.2.2.2.2.2.2.2.2
  have hAO := C.2.2.2.2.2.2.2.2.1.2.2
  replace hl : lv_has ls 7 [(0, .ref hm), (1, .int (nI t))] := hl
  obtain ⟨H, hH⟩ : ∃ H, H = s.heap := ⟨_, rfl⟩
  replace hP : va_P D vwCl [(hm, .inr (12, [.ref ms, .ref mkp, .int (nI km), .ref mtr, .int (nI n), .int (nI k), .int (nI al), .int (nI be), .int ea, .int pr, .ref mas, .int nq, .int po, .int (nI en), .ref mso, .ref mon, .ref mot, .ref man, .int th, .int xd, .ref mst, .ref msm, .ref mtb, .ref mti, .ref mfr, .ref mbn, .ref mbs, .ref mde, .int sF, .int sN, .int sS, .int ig, .long xa, .long xb, .ref maa, .ref mab, .ref mba, .ref mbb]))] H := by rw [hH]; exact hP
  replace hS : va_S A s.heap H [] := by rw [hH]; exact hS
  obtain ⟨locs, hlocs⟩ : ∃ z : List Loc, z = [] := ⟨_, rfl⟩
  rw [← hlocs] at hS
  suffices hW : W p l e ({ frames := 2, cells := 0, slots := 0, locals := 44 } : Room) s m args below meth c H locs 0 0 (MQ below ((xQl D (fun (r : Int64) (_u : Unit) => r = wmN n k t) (fun (_u : Unit) => [(hm, .inr (12, [.ref ms, .ref mkp, .int (nI km), .ref mtr, .int (nI n), .int (nI k), .int (nI al), .int (nI be), .int ea, .int pr, .ref mas, .int nq, .int po, .int (nI en), .ref mso, .ref mon, .ref mot, .ref man, .int th, .int xd, .ref mst, .ref msm, .ref mtb, .ref mti, .ref mfr, .ref mbn, .ref mbs, .ref mde, .int sF, .int sN, .int sS, .int ig, .long xa, .long xb, .ref maa, .ref mab, .ref mba, .ref mbb]))])) A) args s 0 0 A) (F0 m 0 ls []) by rw [hlocs, hH] at hW; exact hW
  clear hH hlocs
  refine lv_aload_n hx hb dX12_waysOf_0 rfl (lv_at hl 0 rfl) ?_
  refine xget C hP 0 rfl rfl zuX12 4 (by decide) zw5_217 rfl dX12_waysOf_1 ?_
  refine lv_i2l hx hb dX12_waysOf_4 rfl ?_
  refine lv_aload_n hx hb dX12_waysOf_5 rfl (lv_at hl 0 rfl) ?_
  refine xl (wr := []) (xV (As := []) (rest := [.long ((nI n).toInt64)]) C (c_X12_samples l D cs hm ms mkp mtr mas mso mon mot man mst msm mtb mti mfr mbn mbs mde maa mab mba mbb n k al be km en ea pr nq po th xd sF sN sS ig xa xb hn hkn) kX12_180 hP hD [0] rfl (by decide +kernel) 0 rfl rfl rfl ⟨Nat.le_of_ble_eq_true rfl, Nat.le_of_ble_eq_true rfl⟩ rfl hl.1 rfl (Nat.le_of_ble_eq_true rfl) dX12_waysOf_6 ⟨Nat.le_of_ble_eq_true rfl, Nat.le_of_ble_eq_true rfl⟩) hP hD hS hA [0] [] rfl rfl (by decide +kernel) (by decide +kernel) ?_
  clear hP hD hS
  try clear locs
  try clear H
  intro r_1 u_2 H locs hw_r_1 hP hD hS
  have hw_r_1 : r_1 = smV n k := hw_r_1
  refine W.widen (k := 0) (n := 0) (Nat.le_of_ble_eq_true rfl) (Nat.le_of_ble_eq_true rfl) ?_
  replace hP : va_P D vwCl [(hm, .inr (12, [.ref ms, .ref mkp, .int (nI km), .ref mtr, .int (nI n), .int (nI k), .int (nI al), .int (nI be), .int ea, .int pr, .ref mas, .int nq, .int po, .int (nI en), .ref mso, .ref mon, .ref mot, .ref man, .int th, .int xd, .ref mst, .ref msm, .ref mtb, .ref mti, .ref mfr, .ref mbn, .ref mbs, .ref mde, .int sF, .int sN, .int sS, .int ig, .long xa, .long xb, .ref maa, .ref mab, .ref mba, .ref mbb]))] H := hP
  replace hD : va_D A [(hm, .inr (12, [.ref ms, .ref mkp, .int (nI km), .ref mtr, .int (nI n), .int (nI k), .int (nI al), .int (nI be), .int ea, .int pr, .ref mas, .int nq, .int po, .int (nI en), .ref mso, .ref mon, .ref mot, .ref man, .int th, .int xd, .ref mst, .ref msm, .ref mtb, .ref mti, .ref mfr, .ref mbn, .ref mbs, .ref mde, .int sF, .int sN, .int sS, .int ig, .long xa, .long xb, .ref maa, .ref mab, .ref mba, .ref mbb]))] := hD
  subst hw_r_1
  replace hP : va_P D vwCl [(hm, .inr (12, [.ref ms, .ref mkp, .int (nI km), .ref mtr, .int (nI n), .int (nI k), .int (nI al), .int (nI be), .int ea, .int pr, .ref mas, .int nq, .int po, .int (nI en), .ref mso, .ref mon, .ref mot, .ref man, .int th, .int xd, .ref mst, .ref msm, .ref mtb, .ref mti, .ref mfr, .ref mbn, .ref mbs, .ref mde, .int sF, .int sN, .int sS, .int ig, .long xa, .long xb, .ref maa, .ref mab, .ref mba, .ref mbb]))] H := hP
  replace hD : va_D A [(hm, .inr (12, [.ref ms, .ref mkp, .int (nI km), .ref mtr, .int (nI n), .int (nI k), .int (nI al), .int (nI be), .int ea, .int pr, .ref mas, .int nq, .int po, .int (nI en), .ref mso, .ref mon, .ref mot, .ref man, .int th, .int xd, .ref mst, .ref msm, .ref mtb, .ref mti, .ref mfr, .ref mbn, .ref mbs, .ref mde, .int sF, .int sN, .int sS, .int ig, .long xa, .long xb, .ref maa, .ref mab, .ref mba, .ref mbb]))] := hD
  refine lv_lmul hx hb dX12_waysOf_9 ?_
  refine lv_lstore_n (lv' := [(2, .long (((nI n).toInt64) * (smV n k))), (0, .ref hm), (1, .int (nI t))]) hx hb dX12_waysOf_10 rfl hl (by decide) rfl ?_
  clear hl
  try clear ls
  intro ls hl
  refine lv_lconst (v := 1) hx hb dX12_waysOf_11 (by decide) ?_
  refine lv_lstore (lv' := [(4, .long 1), (2, .long (((nI n).toInt64) * (smV n k))), (0, .ref hm), (1, .int (nI t))]) hx hb dX12_waysOf_12 hl (by decide) rfl ?_
  clear hl
  try clear ls
  intro ls hl
  refine lv_iconst (v := nI 0) hx hb dX12_waysOf_14 (by decide) ?_
  refine lv_istore (lv' := [(6, .int (nI 0)), (4, .long 1), (2, .long (((nI n).toInt64) * (smV n k))), (0, .ref hm), (1, .int (nI t))]) hx hb dX12_waysOf_15 hl (by decide) rfl ?_
  clear hl
  try clear ls
  intro ls hl
  have loop_3 : ∀ (n_loop_3 : Nat) (o : Nat) (v9 : Int64), (o ≤ t) → (wmL ((nI n).toInt64 * smV n k) (t - o) v9 = wmN n k t) → t - o < n_loop_3 → ∀ (H : Heap) (locs : List Loc) (ls : Array Slot), va_P D vwCl [(hm, .inr (12, [.ref ms, .ref mkp, .int (nI km), .ref mtr, .int (nI n), .int (nI k), .int (nI al), .int (nI be), .int ea, .int pr, .ref mas, .int nq, .int po, .int (nI en), .ref mso, .ref mon, .ref mot, .ref man, .int th, .int xd, .ref mst, .ref msm, .ref mtb, .ref mti, .ref mfr, .ref mbn, .ref mbs, .ref mde, .int sF, .int sN, .int sS, .int ig, .long xa, .long xb, .ref maa, .ref mab, .ref mba, .ref mbb]))] H → va_D A [(hm, .inr (12, [.ref ms, .ref mkp, .int (nI km), .ref mtr, .int (nI n), .int (nI k), .int (nI al), .int (nI be), .int ea, .int pr, .ref mas, .int nq, .int po, .int (nI en), .ref mso, .ref mon, .ref mot, .ref man, .int th, .int xd, .ref mst, .ref msm, .ref mtb, .ref mti, .ref mfr, .ref mbn, .ref mbs, .ref mde, .int sF, .int sN, .int sS, .int ig, .long xa, .long xb, .ref maa, .ref mab, .ref mba, .ref mbb]))] → va_S A s.heap H locs → lv_has ls 7 [(6, .int (nI o)), (4, .long v9), (2, .long (((nI n).toInt64) * (smV n k))), (0, .ref hm), (1, .int (nI t))] → W p l e ({ frames := 2, cells := 0, slots := 0, locals := 44 } : Room) s m args below meth c H locs 0 0 (MQ below ((xQl D (fun (r : Int64) (_u : Unit) => r = wmN n k t) (fun (_u : Unit) => [(hm, .inr (12, [.ref ms, .ref mkp, .int (nI km), .ref mtr, .int (nI n), .int (nI k), .int (nI al), .int (nI be), .int ea, .int pr, .ref mas, .int nq, .int po, .int (nI en), .ref mso, .ref mon, .ref mot, .ref man, .int th, .int xd, .ref mst, .ref msm, .ref mtb, .ref mti, .ref mfr, .ref mbn, .ref mbs, .ref mde, .int sF, .int sN, .int sS, .int ig, .long xa, .long xb, .ref maa, .ref mab, .ref mba, .ref mbb]))])) A) args s 0 0 A) (F0 m 17 ls []) := by
    intro n_loop_3
    induction n_loop_3 with
    | zero => intro o v9 h_o hw9 hlt H locs ls hP hD hS hl; exact absurd hlt (Nat.not_lt_zero _)
    | succ n_loop_3 ih_loop_3 =>
      intro o v9 h_o hw9 hlt_loop_3 H locs ls hP hD hS hl
      refine lv_iload hx hb dX12_waysOf_17 (lv_at hl 0 rfl) ?_
      refine lv_iload_n hx hb dX12_waysOf_19 rfl (lv_at hl 4 rfl) ?_
      refine lv_icmp_ge (tgt := 50) hx hb dX12_waysOf_20 (by decide) (fun c_4 => ?_) (fun c_4 => ?_)
      · -- 20 t
        have fc_4 : t ≤ o := nf_le (by omega) (by omega) c_4
        refine lv_lload hx hb dX12_waysOf_50 (lv_at hl 1 rfl) ?_
        exact xretl C () (by have qq : o = t := (by omega); subst qq; rw [Nat.sub_self] at hw9; exact hw9) hP hD hS (Nat.le_of_ble_eq_true rfl) (Nat.le_of_ble_eq_true rfl) dX12_waysOf_52
      · -- 20 f
        have fc_4 : o < t := nf_nle (by omega) (by omega) c_4
        refine lv_lload hx hb dX12_waysOf_23 (lv_at hl 1 rfl) ?_
        refine lv_ldc2 (v := 9223372036854775807) hx hb hown (hz _ zw6_201) dX12_waysOf_25 ?_
        refine lv_lload_n hx hb dX12_waysOf_28 rfl (lv_at hl 2 rfl) ?_
        refine lv_ldiv hx hb dX12_waysOf_29 (by_ne hn hkn) ?_
        refine W.lcmp hx hb dX12_waysOf_30 ?_
        refine lv_if_le (tgt := 38) hx hb dX12_waysOf_31 (by decide) (fun c_5 => ?_) (fun c_5 => ?_)
        · -- 31 t
          refine lv_lload hx hb dX12_waysOf_38 (lv_at hl 1 rfl) ?_
          refine lv_lload_n hx hb dX12_waysOf_40 rfl (lv_at hl 2 rfl) ?_
          refine lv_lmul hx hb dX12_waysOf_41 ?_
          refine lv_lstore (lv' := [(4, .long (v9 * (((nI n).toInt64) * (smV n k)))), (6, .int (nI o)), (2, .long (((nI n).toInt64) * (smV n k))), (0, .ref hm), (1, .int (nI t))]) hx hb dX12_waysOf_42 hl (by decide) rfl ?_
          clear hl
          try clear ls
          intro ls hl
          refine lv_iinc (v := nI (o + 1)) (lv' := [(6, .int (nI (o + 1))), (4, .long (v9 * (((nI n).toInt64) * (smV n k)))), (2, .long (((nI n).toInt64) * (smV n k))), (0, .ref hm), (1, .int (nI t))]) hx hb dX12_waysOf_44 hl (k := 1) rfl (nI_add o 1) (by decide) rfl ?_
          clear hl
          try clear ls
          intro ls hl
          refine lv_goto (tgt := 17) hx hb dX12_waysOf_47 (by decide) ?_
          exact ih_loop_3 (o + 1) (v9 * (((nI n).toInt64) * (smV n k))) (by omega) (by rw [← hw9]; exact (wm_step (by omega) (l_le c_5)).symm) (by omega) H locs ls hP hD hS (lv_sub hl [0, 1, 2, 3, 4] rfl)
        · -- 31 f
          refine lv_ldc2 (v := (-1)) hx hb hown (hz _ zw6_189) dX12_waysOf_34 ?_
          exact xretl C () ((wm_neg (by omega) (l_nle c_5)).symm.trans hw9) hP hD hS (Nat.le_of_ble_eq_true rfl) (Nat.le_of_ble_eq_true rfl) dX12_waysOf_37
  exact loop_3 _ 0 1 (by omega) rfl (Nat.lt_succ_self _) H locs ls hP hD hS (lv_sub hl [0, 1, 2, 3, 4] rfl)

set_option maxHeartbeats 4000000 in
set_option maxRecDepth 100000 in
theorem c_X12_room_n (l : Launch) (D : va_G) (cs : Nat → ClassId) (hm ms mkp mtr mas mso mon mot man mst msm mtb mti mfr mbn mbs mde maa mab mba mbb : Nat) (n k al be km en : Nat) (ea pr nq po th xd sF sN sS ig : Int32) (xa xb : Int64) (fst ftb fti : Nat → Option Nat) (hn0 : fst 0 = none) (hn1 : fst 1 = none) : xMet l D cs yX12_room cX12_room 2 none ({ frames := 0, cells := 6, slots := 212482, locals := 0 } : Room) [.ref hm] [(hm, .inr (12, [.ref ms, .ref mkp, .int (nI km), .ref mtr, .int (nI n), .int (nI k), .int (nI al), .int (nI be), .int ea, .int pr, .ref mas, .int nq, .int po, .int (nI en), .ref mso, .ref mon, .ref mot, .ref man, .int th, .int xd, .ref mst, .ref msm, .ref mtb, .ref mti, .ref mfr, .ref mbn, .ref mbs, .ref mde, .int sF, .int sN, .int sS, .int ig, .long xa, .long xb, .ref maa, .ref mab, .ref mba, .ref mbb])), (mst, .inl (cs 5, 2, .inr (.inr (.inr (.inr fst))))), (mtb, .inl (cs 5, 2, .inr (.inr (.inr (.inr ftb))))), (mti, .inl (cs 6, 2, .inr (.inr (.inr (.inr fti)))))] (xQv D (fun (u : Nat × Nat × Nat × Nat × Nat × Nat × (Nat → Option Nat) × (Nat → Option Nat) × (Nat → Option Nat)) => match u with | (st0, tb0, ti0, st1, tb1, ti1, fsz, ftz, fiz) => fsz 0 = some st0 ∧ fsz 1 = some st1 ∧ ftz 0 = some tb0 ∧ ftz 1 = some tb1 ∧ fiz 0 = some ti0 ∧ fiz 1 = some ti1) (fun (u : Nat × Nat × Nat × Nat × Nat × Nat × (Nat → Option Nat) × (Nat → Option Nat) × (Nat → Option Nat)) => match u with | (st0, tb0, ti0, st1, tb1, ti1, fsz, ftz, fiz) => [(hm, .inr (12, [.ref ms, .ref mkp, .int (nI km), .ref mtr, .int (nI n), .int (nI k), .int (nI al), .int (nI be), .int ea, .int pr, .ref mas, .int nq, .int po, .int (nI en), .ref mso, .ref mon, .ref mot, .ref man, .int th, .int xd, .ref mst, .ref msm, .ref mtb, .ref mti, .ref mfr, .ref mbn, .ref mbs, .ref mde, .int sF, .int sN, .int sS, .int ig, .long xa, .long xb, .ref maa, .ref mab, .ref mba, .ref mbb])), (mst, .inl (cs 5, 2, .inr (.inr (.inr (.inr fsz))))), (mtb, .inl (cs 5, 2, .inr (.inr (.inr (.inr ftz))))), (mti, .inl (cs 6, 2, .inr (.inr (.inr (.inr fiz))))), (st0, .inl (cs 0, 96048, .inl (fun _ => 0))), (tb0, .inl (cs 0, 8192, .inl (fun _ => 0))), (ti0, .inl (cs 1, 2001, .inr (.inl (fun _ => 0)))), (st1, .inl (cs 0, 96048, .inl (fun _ => 0))), (tb1, .inl (cs 0, 8192, .inl (fun _ => 0))), (ti1, .inl (cs 1, 2001, .inr (.inl (fun _ => 0))))])) := by
  refine xMet.intro (by decide) (Nat.le_of_ble_eq_true rfl) ?_
  intro p e s m args below meth c A ls C hP hD hS hl
  have hx := C.1
  have hb := C.2.1
  have hz := C.2.2.2.2.1
  have hown := C.2.2.2.1
  have hA := C.2.2.2.2.2.2.2.2.2
  have hAO := C.2.2.2.2.2.2.2.2.1.2.2
  replace hl : lv_has ls 2 [(0, .ref hm)] := hl
  obtain ⟨H, hH⟩ : ∃ H, H = s.heap := ⟨_, rfl⟩
  replace hP : va_P D vwCl [(hm, .inr (12, [.ref ms, .ref mkp, .int (nI km), .ref mtr, .int (nI n), .int (nI k), .int (nI al), .int (nI be), .int ea, .int pr, .ref mas, .int nq, .int po, .int (nI en), .ref mso, .ref mon, .ref mot, .ref man, .int th, .int xd, .ref mst, .ref msm, .ref mtb, .ref mti, .ref mfr, .ref mbn, .ref mbs, .ref mde, .int sF, .int sN, .int sS, .int ig, .long xa, .long xb, .ref maa, .ref mab, .ref mba, .ref mbb])), (mst, .inl (cs 5, 2, .inr (.inr (.inr (.inr fst))))), (mtb, .inl (cs 5, 2, .inr (.inr (.inr (.inr ftb))))), (mti, .inl (cs 6, 2, .inr (.inr (.inr (.inr fti)))))] H := by rw [hH]; exact hP
  replace hS : va_S A s.heap H [] := by rw [hH]; exact hS
  obtain ⟨locs, hlocs⟩ : ∃ z : List Loc, z = [] := ⟨_, rfl⟩
  rw [← hlocs] at hS
  suffices hW : W p l e ({ frames := 0, cells := 6, slots := 212482, locals := 0 } : Room) s m args below meth c H locs 0 0 (MQ below ((xQv D (fun (u : Nat × Nat × Nat × Nat × Nat × Nat × (Nat → Option Nat) × (Nat → Option Nat) × (Nat → Option Nat)) => match u with | (st0, tb0, ti0, st1, tb1, ti1, fsz, ftz, fiz) => fsz 0 = some st0 ∧ fsz 1 = some st1 ∧ ftz 0 = some tb0 ∧ ftz 1 = some tb1 ∧ fiz 0 = some ti0 ∧ fiz 1 = some ti1) (fun (u : Nat × Nat × Nat × Nat × Nat × Nat × (Nat → Option Nat) × (Nat → Option Nat) × (Nat → Option Nat)) => match u with | (st0, tb0, ti0, st1, tb1, ti1, fsz, ftz, fiz) => [(hm, .inr (12, [.ref ms, .ref mkp, .int (nI km), .ref mtr, .int (nI n), .int (nI k), .int (nI al), .int (nI be), .int ea, .int pr, .ref mas, .int nq, .int po, .int (nI en), .ref mso, .ref mon, .ref mot, .ref man, .int th, .int xd, .ref mst, .ref msm, .ref mtb, .ref mti, .ref mfr, .ref mbn, .ref mbs, .ref mde, .int sF, .int sN, .int sS, .int ig, .long xa, .long xb, .ref maa, .ref mab, .ref mba, .ref mbb])), (mst, .inl (cs 5, 2, .inr (.inr (.inr (.inr fsz))))), (mtb, .inl (cs 5, 2, .inr (.inr (.inr (.inr ftz))))), (mti, .inl (cs 6, 2, .inr (.inr (.inr (.inr fiz))))), (st0, .inl (cs 0, 96048, .inl (fun _ => 0))), (tb0, .inl (cs 0, 8192, .inl (fun _ => 0))), (ti0, .inl (cs 1, 2001, .inr (.inl (fun _ => 0)))), (st1, .inl (cs 0, 96048, .inl (fun _ => 0))), (tb1, .inl (cs 0, 8192, .inl (fun _ => 0))), (ti1, .inl (cs 1, 2001, .inr (.inl (fun _ => 0))))])) A) args s 6 212482 A) (F0 m 0 ls []) by rw [hlocs, hH] at hW; exact hW
  clear hH hlocs
  refine lv_iconst (v := nI 0) hx hb dX12_room_0 (by decide) ?_
  refine lv_istore_n (lv' := [(1, .int (nI 0)), (0, .ref hm)]) hx hb dX12_room_1 rfl hl (by decide) rfl ?_
  clear hl
  try clear ls
  intro ls hl
  refine lv_iload_n hx hb dX12_room_2 rfl (lv_at hl 0 rfl) ?_
  refine lv_iconst (v := nI 2) hx hb dX12_room_3 (by decide) ?_
  refine lv_icmp_ge (tgt := 54) hx hb dX12_room_4 (by decide) (fun c => absurd c (by decide)) (fun _ => ?_)
  refine lv_aload_n hx hb dX12_room_7 rfl (lv_at hl 1 rfl) ?_
  refine xget C hP 0 rfl rfl zuX12 20 (by decide) zw5_233 rfl dX12_room_8 ?_
  refine lv_iload_n hx hb dX12_room_11 rfl (lv_at hl 0 rfl) ?_
  refine xaaldN C hP 1 5 rfl rfl rfl 0 rfl (by decide) (by decide) hn0 dX12_room_12 ?_
  refine lv_ifnonnullN hx hb dX12_room_13 ?_
  refine lv_aload_n hx hb dX12_room_16 rfl (lv_at hl 1 rfl) ?_
  refine xget C hP 0 rfl rfl zuX12 20 (by decide) zw5_233 rfl dX12_room_17 ?_
  refine lv_iload_n hx hb dX12_room_20 rfl (lv_at hl 0 rfl) ?_
  refine lv_ldc (v := nI 96048) hx hb hown (hz _ zw6_215) dX12_room_21 ?_
  refine xnewi (n := 96048) C hP hD hS zw1_126 rfl (by decide) (Nat.le_of_ble_eq_true rfl) (Nat.le_of_ble_eq_true rfl) dX12_room_23 ?_
  clear hP hD hS
  try clear H
  intro q_1 H hP hD hS
  refine W.widen (k := 1) (n := 96048) (Nat.le_of_ble_eq_true rfl) (Nat.le_of_ble_eq_true rfl) ?_
  replace hP : va_P D vwCl [(hm, .inr (12, [.ref ms, .ref mkp, .int (nI km), .ref mtr, .int (nI n), .int (nI k), .int (nI al), .int (nI be), .int ea, .int pr, .ref mas, .int nq, .int po, .int (nI en), .ref mso, .ref mon, .ref mot, .ref man, .int th, .int xd, .ref mst, .ref msm, .ref mtb, .ref mti, .ref mfr, .ref mbn, .ref mbs, .ref mde, .int sF, .int sN, .int sS, .int ig, .long xa, .long xb, .ref maa, .ref mab, .ref mba, .ref mbb])), (mst, .inl (cs 5, 2, .inr (.inr (.inr (.inr fst))))), (mtb, .inl (cs 5, 2, .inr (.inr (.inr (.inr ftb))))), (mti, .inl (cs 6, 2, .inr (.inr (.inr (.inr fti))))), (q_1, .inl (cs 0, 96048, .inl (fun _ => 0)))] H := hP
  replace hD : va_D A [(hm, .inr (12, [.ref ms, .ref mkp, .int (nI km), .ref mtr, .int (nI n), .int (nI k), .int (nI al), .int (nI be), .int ea, .int pr, .ref mas, .int nq, .int po, .int (nI en), .ref mso, .ref mon, .ref mot, .ref man, .int th, .int xd, .ref mst, .ref msm, .ref mtb, .ref mti, .ref mfr, .ref mbn, .ref mbs, .ref mde, .int sF, .int sN, .int sS, .int ig, .long xa, .long xb, .ref maa, .ref mab, .ref mba, .ref mbb])), (mst, .inl (cs 5, 2, .inr (.inr (.inr (.inr fst))))), (mtb, .inl (cs 5, 2, .inr (.inr (.inr (.inr ftb))))), (mti, .inl (cs 6, 2, .inr (.inr (.inr (.inr fti))))), (q_1, .inl (cs 0, 96048, .inl (fun _ => 0)))] := hD
  refine xaastA C hP hD hS 1 5 4 0 rfl rfl rfl (fun h => h) hAO.2.2.2.1 rfl 0 rfl (by decide) (by decide) dX12_room_25 ?_
  clear hP hD hS
  try clear locs
  try clear H
  intro H locs hP hD hS
  replace hP : va_P D vwCl [(hm, .inr (12, [.ref ms, .ref mkp, .int (nI km), .ref mtr, .int (nI n), .int (nI k), .int (nI al), .int (nI be), .int ea, .int pr, .ref mas, .int nq, .int po, .int (nI en), .ref mso, .ref mon, .ref mot, .ref man, .int th, .int xd, .ref mst, .ref msm, .ref mtb, .ref mti, .ref mfr, .ref mbn, .ref mbs, .ref mde, .int sF, .int sN, .int sS, .int ig, .long xa, .long xb, .ref maa, .ref mab, .ref mba, .ref mbb])), (mst, .inl (cs 5, 2, .inr (.inr (.inr (.inr (va_up fst 0 (some q_1))))))), (mtb, .inl (cs 5, 2, .inr (.inr (.inr (.inr ftb))))), (mti, .inl (cs 6, 2, .inr (.inr (.inr (.inr fti))))), (q_1, .inl (cs 0, 96048, .inl (fun _ => 0)))] H := hP
  replace hD : va_D A [(hm, .inr (12, [.ref ms, .ref mkp, .int (nI km), .ref mtr, .int (nI n), .int (nI k), .int (nI al), .int (nI be), .int ea, .int pr, .ref mas, .int nq, .int po, .int (nI en), .ref mso, .ref mon, .ref mot, .ref man, .int th, .int xd, .ref mst, .ref msm, .ref mtb, .ref mti, .ref mfr, .ref mbn, .ref mbs, .ref mde, .int sF, .int sN, .int sS, .int ig, .long xa, .long xb, .ref maa, .ref mab, .ref mba, .ref mbb])), (mst, .inl (cs 5, 2, .inr (.inr (.inr (.inr (va_up fst 0 (some q_1))))))), (mtb, .inl (cs 5, 2, .inr (.inr (.inr (.inr ftb))))), (mti, .inl (cs 6, 2, .inr (.inr (.inr (.inr fti))))), (q_1, .inl (cs 0, 96048, .inl (fun _ => 0)))] := hD
  refine lv_aload_n hx hb dX12_room_26 rfl (lv_at hl 1 rfl) ?_
  refine xget C hP 0 rfl rfl zuX12 22 (by decide) zw5_235 rfl dX12_room_27 ?_
  refine lv_iload_n hx hb dX12_room_30 rfl (lv_at hl 0 rfl) ?_
  refine lv_sipush (v := nI 8192) hx hb dX12_room_31 (by decide) ?_
  refine xnewi (n := 8192) C hP hD hS zw1_126 rfl (by decide) (Nat.le_of_ble_eq_true rfl) (Nat.le_of_ble_eq_true rfl) dX12_room_34 ?_
  clear hP hD hS
  try clear H
  intro q_2 H hP hD hS
  refine W.widen (k := 2) (n := 104240) (Nat.le_of_ble_eq_true rfl) (Nat.le_of_ble_eq_true rfl) ?_
  replace hP : va_P D vwCl [(hm, .inr (12, [.ref ms, .ref mkp, .int (nI km), .ref mtr, .int (nI n), .int (nI k), .int (nI al), .int (nI be), .int ea, .int pr, .ref mas, .int nq, .int po, .int (nI en), .ref mso, .ref mon, .ref mot, .ref man, .int th, .int xd, .ref mst, .ref msm, .ref mtb, .ref mti, .ref mfr, .ref mbn, .ref mbs, .ref mde, .int sF, .int sN, .int sS, .int ig, .long xa, .long xb, .ref maa, .ref mab, .ref mba, .ref mbb])), (mst, .inl (cs 5, 2, .inr (.inr (.inr (.inr (va_up fst 0 (some q_1))))))), (mtb, .inl (cs 5, 2, .inr (.inr (.inr (.inr ftb))))), (mti, .inl (cs 6, 2, .inr (.inr (.inr (.inr fti))))), (q_1, .inl (cs 0, 96048, .inl (fun _ => 0))), (q_2, .inl (cs 0, 8192, .inl (fun _ => 0)))] H := hP
  replace hD : va_D A [(hm, .inr (12, [.ref ms, .ref mkp, .int (nI km), .ref mtr, .int (nI n), .int (nI k), .int (nI al), .int (nI be), .int ea, .int pr, .ref mas, .int nq, .int po, .int (nI en), .ref mso, .ref mon, .ref mot, .ref man, .int th, .int xd, .ref mst, .ref msm, .ref mtb, .ref mti, .ref mfr, .ref mbn, .ref mbs, .ref mde, .int sF, .int sN, .int sS, .int ig, .long xa, .long xb, .ref maa, .ref mab, .ref mba, .ref mbb])), (mst, .inl (cs 5, 2, .inr (.inr (.inr (.inr (va_up fst 0 (some q_1))))))), (mtb, .inl (cs 5, 2, .inr (.inr (.inr (.inr ftb))))), (mti, .inl (cs 6, 2, .inr (.inr (.inr (.inr fti))))), (q_1, .inl (cs 0, 96048, .inl (fun _ => 0))), (q_2, .inl (cs 0, 8192, .inl (fun _ => 0)))] := hD
  refine xaastA C hP hD hS 2 5 5 0 rfl rfl rfl (fun h => h) hAO.2.2.2.1 rfl 0 rfl (by decide) (by decide) dX12_room_36 ?_
  clear hP hD hS
  try clear locs
  try clear H
  intro H locs hP hD hS
  replace hP : va_P D vwCl [(hm, .inr (12, [.ref ms, .ref mkp, .int (nI km), .ref mtr, .int (nI n), .int (nI k), .int (nI al), .int (nI be), .int ea, .int pr, .ref mas, .int nq, .int po, .int (nI en), .ref mso, .ref mon, .ref mot, .ref man, .int th, .int xd, .ref mst, .ref msm, .ref mtb, .ref mti, .ref mfr, .ref mbn, .ref mbs, .ref mde, .int sF, .int sN, .int sS, .int ig, .long xa, .long xb, .ref maa, .ref mab, .ref mba, .ref mbb])), (mst, .inl (cs 5, 2, .inr (.inr (.inr (.inr (va_up fst 0 (some q_1))))))), (mtb, .inl (cs 5, 2, .inr (.inr (.inr (.inr (va_up ftb 0 (some q_2))))))), (mti, .inl (cs 6, 2, .inr (.inr (.inr (.inr fti))))), (q_1, .inl (cs 0, 96048, .inl (fun _ => 0))), (q_2, .inl (cs 0, 8192, .inl (fun _ => 0)))] H := hP
  replace hD : va_D A [(hm, .inr (12, [.ref ms, .ref mkp, .int (nI km), .ref mtr, .int (nI n), .int (nI k), .int (nI al), .int (nI be), .int ea, .int pr, .ref mas, .int nq, .int po, .int (nI en), .ref mso, .ref mon, .ref mot, .ref man, .int th, .int xd, .ref mst, .ref msm, .ref mtb, .ref mti, .ref mfr, .ref mbn, .ref mbs, .ref mde, .int sF, .int sN, .int sS, .int ig, .long xa, .long xb, .ref maa, .ref mab, .ref mba, .ref mbb])), (mst, .inl (cs 5, 2, .inr (.inr (.inr (.inr (va_up fst 0 (some q_1))))))), (mtb, .inl (cs 5, 2, .inr (.inr (.inr (.inr (va_up ftb 0 (some q_2))))))), (mti, .inl (cs 6, 2, .inr (.inr (.inr (.inr fti))))), (q_1, .inl (cs 0, 96048, .inl (fun _ => 0))), (q_2, .inl (cs 0, 8192, .inl (fun _ => 0)))] := hD
  refine lv_aload_n hx hb dX12_room_37 rfl (lv_at hl 1 rfl) ?_
  refine xget C hP 0 rfl rfl zuX12 23 (by decide) zw5_236 rfl dX12_room_38 ?_
  refine lv_iload_n hx hb dX12_room_41 rfl (lv_at hl 0 rfl) ?_
  refine lv_sipush (v := nI 2001) hx hb dX12_room_42 (by decide) ?_
  refine xnewl (n := 2001) C hP hD hS zw2_84 rfl (by decide) (Nat.le_of_ble_eq_true rfl) (Nat.le_of_ble_eq_true rfl) dX12_room_45 ?_
  clear hP hD hS
  try clear H
  intro q_3 H hP hD hS
  refine W.widen (k := 3) (n := 106241) (Nat.le_of_ble_eq_true rfl) (Nat.le_of_ble_eq_true rfl) ?_
  replace hP : va_P D vwCl [(hm, .inr (12, [.ref ms, .ref mkp, .int (nI km), .ref mtr, .int (nI n), .int (nI k), .int (nI al), .int (nI be), .int ea, .int pr, .ref mas, .int nq, .int po, .int (nI en), .ref mso, .ref mon, .ref mot, .ref man, .int th, .int xd, .ref mst, .ref msm, .ref mtb, .ref mti, .ref mfr, .ref mbn, .ref mbs, .ref mde, .int sF, .int sN, .int sS, .int ig, .long xa, .long xb, .ref maa, .ref mab, .ref mba, .ref mbb])), (mst, .inl (cs 5, 2, .inr (.inr (.inr (.inr (va_up fst 0 (some q_1))))))), (mtb, .inl (cs 5, 2, .inr (.inr (.inr (.inr (va_up ftb 0 (some q_2))))))), (mti, .inl (cs 6, 2, .inr (.inr (.inr (.inr fti))))), (q_1, .inl (cs 0, 96048, .inl (fun _ => 0))), (q_2, .inl (cs 0, 8192, .inl (fun _ => 0))), (q_3, .inl (cs 1, 2001, .inr (.inl (fun _ => 0))))] H := hP
  replace hD : va_D A [(hm, .inr (12, [.ref ms, .ref mkp, .int (nI km), .ref mtr, .int (nI n), .int (nI k), .int (nI al), .int (nI be), .int ea, .int pr, .ref mas, .int nq, .int po, .int (nI en), .ref mso, .ref mon, .ref mot, .ref man, .int th, .int xd, .ref mst, .ref msm, .ref mtb, .ref mti, .ref mfr, .ref mbn, .ref mbs, .ref mde, .int sF, .int sN, .int sS, .int ig, .long xa, .long xb, .ref maa, .ref mab, .ref mba, .ref mbb])), (mst, .inl (cs 5, 2, .inr (.inr (.inr (.inr (va_up fst 0 (some q_1))))))), (mtb, .inl (cs 5, 2, .inr (.inr (.inr (.inr (va_up ftb 0 (some q_2))))))), (mti, .inl (cs 6, 2, .inr (.inr (.inr (.inr fti))))), (q_1, .inl (cs 0, 96048, .inl (fun _ => 0))), (q_2, .inl (cs 0, 8192, .inl (fun _ => 0))), (q_3, .inl (cs 1, 2001, .inr (.inl (fun _ => 0))))] := hD
  refine xaastA C hP hD hS 3 6 6 1 rfl rfl rfl (fun h => h) hAO.2.2.2.2 rfl 0 rfl (by decide) (by decide) dX12_room_47 ?_
  clear hP hD hS
  try clear locs
  try clear H
  intro H locs hP hD hS
  replace hP : va_P D vwCl [(hm, .inr (12, [.ref ms, .ref mkp, .int (nI km), .ref mtr, .int (nI n), .int (nI k), .int (nI al), .int (nI be), .int ea, .int pr, .ref mas, .int nq, .int po, .int (nI en), .ref mso, .ref mon, .ref mot, .ref man, .int th, .int xd, .ref mst, .ref msm, .ref mtb, .ref mti, .ref mfr, .ref mbn, .ref mbs, .ref mde, .int sF, .int sN, .int sS, .int ig, .long xa, .long xb, .ref maa, .ref mab, .ref mba, .ref mbb])), (mst, .inl (cs 5, 2, .inr (.inr (.inr (.inr (va_up fst 0 (some q_1))))))), (mtb, .inl (cs 5, 2, .inr (.inr (.inr (.inr (va_up ftb 0 (some q_2))))))), (mti, .inl (cs 6, 2, .inr (.inr (.inr (.inr (va_up fti 0 (some q_3))))))), (q_1, .inl (cs 0, 96048, .inl (fun _ => 0))), (q_2, .inl (cs 0, 8192, .inl (fun _ => 0))), (q_3, .inl (cs 1, 2001, .inr (.inl (fun _ => 0))))] H := hP
  replace hD : va_D A [(hm, .inr (12, [.ref ms, .ref mkp, .int (nI km), .ref mtr, .int (nI n), .int (nI k), .int (nI al), .int (nI be), .int ea, .int pr, .ref mas, .int nq, .int po, .int (nI en), .ref mso, .ref mon, .ref mot, .ref man, .int th, .int xd, .ref mst, .ref msm, .ref mtb, .ref mti, .ref mfr, .ref mbn, .ref mbs, .ref mde, .int sF, .int sN, .int sS, .int ig, .long xa, .long xb, .ref maa, .ref mab, .ref mba, .ref mbb])), (mst, .inl (cs 5, 2, .inr (.inr (.inr (.inr (va_up fst 0 (some q_1))))))), (mtb, .inl (cs 5, 2, .inr (.inr (.inr (.inr (va_up ftb 0 (some q_2))))))), (mti, .inl (cs 6, 2, .inr (.inr (.inr (.inr (va_up fti 0 (some q_3))))))), (q_1, .inl (cs 0, 96048, .inl (fun _ => 0))), (q_2, .inl (cs 0, 8192, .inl (fun _ => 0))), (q_3, .inl (cs 1, 2001, .inr (.inl (fun _ => 0))))] := hD
  refine lv_iinc (v := nI 1) (lv' := [(1, .int (nI 1)), (0, .ref hm)]) hx hb dX12_room_48 hl (k := 0) rfl (by decide) (by decide) rfl ?_
  clear hl
  try clear ls
  intro ls hl
  refine lv_goto (tgt := 2) hx hb dX12_room_51 (by decide) ?_
  refine lv_iload_n hx hb dX12_room_2 rfl (lv_at hl 0 rfl) ?_
  refine lv_iconst (v := nI 2) hx hb dX12_room_3 (by decide) ?_
  refine lv_icmp_ge (tgt := 54) hx hb dX12_room_4 (by decide) (fun c => absurd c (by decide)) (fun _ => ?_)
  refine lv_aload_n hx hb dX12_room_7 rfl (lv_at hl 1 rfl) ?_
  refine xget C hP 0 rfl rfl zuX12 20 (by decide) zw5_233 rfl dX12_room_8 ?_
  refine lv_iload_n hx hb dX12_room_11 rfl (lv_at hl 0 rfl) ?_
  refine xaaldN C hP 1 5 rfl rfl rfl 1 rfl (by decide) (by decide) (show _ from hn1) dX12_room_12 ?_
  refine lv_ifnonnullN hx hb dX12_room_13 ?_
  refine lv_aload_n hx hb dX12_room_16 rfl (lv_at hl 1 rfl) ?_
  refine xget C hP 0 rfl rfl zuX12 20 (by decide) zw5_233 rfl dX12_room_17 ?_
  refine lv_iload_n hx hb dX12_room_20 rfl (lv_at hl 0 rfl) ?_
  refine lv_ldc (v := nI 96048) hx hb hown (hz _ zw6_215) dX12_room_21 ?_
  refine xnewi (n := 96048) C hP hD hS zw1_126 rfl (by decide) (Nat.le_of_ble_eq_true rfl) (Nat.le_of_ble_eq_true rfl) dX12_room_23 ?_
  clear hP hD hS
  try clear H
  intro q_4 H hP hD hS
  refine W.widen (k := 4) (n := 202289) (Nat.le_of_ble_eq_true rfl) (Nat.le_of_ble_eq_true rfl) ?_
  replace hP : va_P D vwCl [(hm, .inr (12, [.ref ms, .ref mkp, .int (nI km), .ref mtr, .int (nI n), .int (nI k), .int (nI al), .int (nI be), .int ea, .int pr, .ref mas, .int nq, .int po, .int (nI en), .ref mso, .ref mon, .ref mot, .ref man, .int th, .int xd, .ref mst, .ref msm, .ref mtb, .ref mti, .ref mfr, .ref mbn, .ref mbs, .ref mde, .int sF, .int sN, .int sS, .int ig, .long xa, .long xb, .ref maa, .ref mab, .ref mba, .ref mbb])), (mst, .inl (cs 5, 2, .inr (.inr (.inr (.inr (va_up fst 0 (some q_1))))))), (mtb, .inl (cs 5, 2, .inr (.inr (.inr (.inr (va_up ftb 0 (some q_2))))))), (mti, .inl (cs 6, 2, .inr (.inr (.inr (.inr (va_up fti 0 (some q_3))))))), (q_1, .inl (cs 0, 96048, .inl (fun _ => 0))), (q_2, .inl (cs 0, 8192, .inl (fun _ => 0))), (q_3, .inl (cs 1, 2001, .inr (.inl (fun _ => 0)))), (q_4, .inl (cs 0, 96048, .inl (fun _ => 0)))] H := hP
  replace hD : va_D A [(hm, .inr (12, [.ref ms, .ref mkp, .int (nI km), .ref mtr, .int (nI n), .int (nI k), .int (nI al), .int (nI be), .int ea, .int pr, .ref mas, .int nq, .int po, .int (nI en), .ref mso, .ref mon, .ref mot, .ref man, .int th, .int xd, .ref mst, .ref msm, .ref mtb, .ref mti, .ref mfr, .ref mbn, .ref mbs, .ref mde, .int sF, .int sN, .int sS, .int ig, .long xa, .long xb, .ref maa, .ref mab, .ref mba, .ref mbb])), (mst, .inl (cs 5, 2, .inr (.inr (.inr (.inr (va_up fst 0 (some q_1))))))), (mtb, .inl (cs 5, 2, .inr (.inr (.inr (.inr (va_up ftb 0 (some q_2))))))), (mti, .inl (cs 6, 2, .inr (.inr (.inr (.inr (va_up fti 0 (some q_3))))))), (q_1, .inl (cs 0, 96048, .inl (fun _ => 0))), (q_2, .inl (cs 0, 8192, .inl (fun _ => 0))), (q_3, .inl (cs 1, 2001, .inr (.inl (fun _ => 0)))), (q_4, .inl (cs 0, 96048, .inl (fun _ => 0)))] := hD
  refine xaastA C hP hD hS 1 5 7 0 rfl rfl rfl (fun h => h) hAO.2.2.2.1 rfl 1 rfl (by decide) (by decide) dX12_room_25 ?_
  clear hP hD hS
  try clear locs
  try clear H
  intro H locs hP hD hS
  replace hP : va_P D vwCl [(hm, .inr (12, [.ref ms, .ref mkp, .int (nI km), .ref mtr, .int (nI n), .int (nI k), .int (nI al), .int (nI be), .int ea, .int pr, .ref mas, .int nq, .int po, .int (nI en), .ref mso, .ref mon, .ref mot, .ref man, .int th, .int xd, .ref mst, .ref msm, .ref mtb, .ref mti, .ref mfr, .ref mbn, .ref mbs, .ref mde, .int sF, .int sN, .int sS, .int ig, .long xa, .long xb, .ref maa, .ref mab, .ref mba, .ref mbb])), (mst, .inl (cs 5, 2, .inr (.inr (.inr (.inr (va_up (va_up fst 0 (some q_1)) 1 (some q_4))))))), (mtb, .inl (cs 5, 2, .inr (.inr (.inr (.inr (va_up ftb 0 (some q_2))))))), (mti, .inl (cs 6, 2, .inr (.inr (.inr (.inr (va_up fti 0 (some q_3))))))), (q_1, .inl (cs 0, 96048, .inl (fun _ => 0))), (q_2, .inl (cs 0, 8192, .inl (fun _ => 0))), (q_3, .inl (cs 1, 2001, .inr (.inl (fun _ => 0)))), (q_4, .inl (cs 0, 96048, .inl (fun _ => 0)))] H := hP
  replace hD : va_D A [(hm, .inr (12, [.ref ms, .ref mkp, .int (nI km), .ref mtr, .int (nI n), .int (nI k), .int (nI al), .int (nI be), .int ea, .int pr, .ref mas, .int nq, .int po, .int (nI en), .ref mso, .ref mon, .ref mot, .ref man, .int th, .int xd, .ref mst, .ref msm, .ref mtb, .ref mti, .ref mfr, .ref mbn, .ref mbs, .ref mde, .int sF, .int sN, .int sS, .int ig, .long xa, .long xb, .ref maa, .ref mab, .ref mba, .ref mbb])), (mst, .inl (cs 5, 2, .inr (.inr (.inr (.inr (va_up (va_up fst 0 (some q_1)) 1 (some q_4))))))), (mtb, .inl (cs 5, 2, .inr (.inr (.inr (.inr (va_up ftb 0 (some q_2))))))), (mti, .inl (cs 6, 2, .inr (.inr (.inr (.inr (va_up fti 0 (some q_3))))))), (q_1, .inl (cs 0, 96048, .inl (fun _ => 0))), (q_2, .inl (cs 0, 8192, .inl (fun _ => 0))), (q_3, .inl (cs 1, 2001, .inr (.inl (fun _ => 0)))), (q_4, .inl (cs 0, 96048, .inl (fun _ => 0)))] := hD
  refine lv_aload_n hx hb dX12_room_26 rfl (lv_at hl 1 rfl) ?_
  refine xget C hP 0 rfl rfl zuX12 22 (by decide) zw5_235 rfl dX12_room_27 ?_
  refine lv_iload_n hx hb dX12_room_30 rfl (lv_at hl 0 rfl) ?_
  refine lv_sipush (v := nI 8192) hx hb dX12_room_31 (by decide) ?_
  refine xnewi (n := 8192) C hP hD hS zw1_126 rfl (by decide) (Nat.le_of_ble_eq_true rfl) (Nat.le_of_ble_eq_true rfl) dX12_room_34 ?_
  clear hP hD hS
  try clear H
  intro q_5 H hP hD hS
  refine W.widen (k := 5) (n := 210481) (Nat.le_of_ble_eq_true rfl) (Nat.le_of_ble_eq_true rfl) ?_
  replace hP : va_P D vwCl [(hm, .inr (12, [.ref ms, .ref mkp, .int (nI km), .ref mtr, .int (nI n), .int (nI k), .int (nI al), .int (nI be), .int ea, .int pr, .ref mas, .int nq, .int po, .int (nI en), .ref mso, .ref mon, .ref mot, .ref man, .int th, .int xd, .ref mst, .ref msm, .ref mtb, .ref mti, .ref mfr, .ref mbn, .ref mbs, .ref mde, .int sF, .int sN, .int sS, .int ig, .long xa, .long xb, .ref maa, .ref mab, .ref mba, .ref mbb])), (mst, .inl (cs 5, 2, .inr (.inr (.inr (.inr (va_up (va_up fst 0 (some q_1)) 1 (some q_4))))))), (mtb, .inl (cs 5, 2, .inr (.inr (.inr (.inr (va_up ftb 0 (some q_2))))))), (mti, .inl (cs 6, 2, .inr (.inr (.inr (.inr (va_up fti 0 (some q_3))))))), (q_1, .inl (cs 0, 96048, .inl (fun _ => 0))), (q_2, .inl (cs 0, 8192, .inl (fun _ => 0))), (q_3, .inl (cs 1, 2001, .inr (.inl (fun _ => 0)))), (q_4, .inl (cs 0, 96048, .inl (fun _ => 0))), (q_5, .inl (cs 0, 8192, .inl (fun _ => 0)))] H := hP
  replace hD : va_D A [(hm, .inr (12, [.ref ms, .ref mkp, .int (nI km), .ref mtr, .int (nI n), .int (nI k), .int (nI al), .int (nI be), .int ea, .int pr, .ref mas, .int nq, .int po, .int (nI en), .ref mso, .ref mon, .ref mot, .ref man, .int th, .int xd, .ref mst, .ref msm, .ref mtb, .ref mti, .ref mfr, .ref mbn, .ref mbs, .ref mde, .int sF, .int sN, .int sS, .int ig, .long xa, .long xb, .ref maa, .ref mab, .ref mba, .ref mbb])), (mst, .inl (cs 5, 2, .inr (.inr (.inr (.inr (va_up (va_up fst 0 (some q_1)) 1 (some q_4))))))), (mtb, .inl (cs 5, 2, .inr (.inr (.inr (.inr (va_up ftb 0 (some q_2))))))), (mti, .inl (cs 6, 2, .inr (.inr (.inr (.inr (va_up fti 0 (some q_3))))))), (q_1, .inl (cs 0, 96048, .inl (fun _ => 0))), (q_2, .inl (cs 0, 8192, .inl (fun _ => 0))), (q_3, .inl (cs 1, 2001, .inr (.inl (fun _ => 0)))), (q_4, .inl (cs 0, 96048, .inl (fun _ => 0))), (q_5, .inl (cs 0, 8192, .inl (fun _ => 0)))] := hD
  refine xaastA C hP hD hS 2 5 8 0 rfl rfl rfl (fun h => h) hAO.2.2.2.1 rfl 1 rfl (by decide) (by decide) dX12_room_36 ?_
  clear hP hD hS
  try clear locs
  try clear H
  intro H locs hP hD hS
  replace hP : va_P D vwCl [(hm, .inr (12, [.ref ms, .ref mkp, .int (nI km), .ref mtr, .int (nI n), .int (nI k), .int (nI al), .int (nI be), .int ea, .int pr, .ref mas, .int nq, .int po, .int (nI en), .ref mso, .ref mon, .ref mot, .ref man, .int th, .int xd, .ref mst, .ref msm, .ref mtb, .ref mti, .ref mfr, .ref mbn, .ref mbs, .ref mde, .int sF, .int sN, .int sS, .int ig, .long xa, .long xb, .ref maa, .ref mab, .ref mba, .ref mbb])), (mst, .inl (cs 5, 2, .inr (.inr (.inr (.inr (va_up (va_up fst 0 (some q_1)) 1 (some q_4))))))), (mtb, .inl (cs 5, 2, .inr (.inr (.inr (.inr (va_up (va_up ftb 0 (some q_2)) 1 (some q_5))))))), (mti, .inl (cs 6, 2, .inr (.inr (.inr (.inr (va_up fti 0 (some q_3))))))), (q_1, .inl (cs 0, 96048, .inl (fun _ => 0))), (q_2, .inl (cs 0, 8192, .inl (fun _ => 0))), (q_3, .inl (cs 1, 2001, .inr (.inl (fun _ => 0)))), (q_4, .inl (cs 0, 96048, .inl (fun _ => 0))), (q_5, .inl (cs 0, 8192, .inl (fun _ => 0)))] H := hP
  replace hD : va_D A [(hm, .inr (12, [.ref ms, .ref mkp, .int (nI km), .ref mtr, .int (nI n), .int (nI k), .int (nI al), .int (nI be), .int ea, .int pr, .ref mas, .int nq, .int po, .int (nI en), .ref mso, .ref mon, .ref mot, .ref man, .int th, .int xd, .ref mst, .ref msm, .ref mtb, .ref mti, .ref mfr, .ref mbn, .ref mbs, .ref mde, .int sF, .int sN, .int sS, .int ig, .long xa, .long xb, .ref maa, .ref mab, .ref mba, .ref mbb])), (mst, .inl (cs 5, 2, .inr (.inr (.inr (.inr (va_up (va_up fst 0 (some q_1)) 1 (some q_4))))))), (mtb, .inl (cs 5, 2, .inr (.inr (.inr (.inr (va_up (va_up ftb 0 (some q_2)) 1 (some q_5))))))), (mti, .inl (cs 6, 2, .inr (.inr (.inr (.inr (va_up fti 0 (some q_3))))))), (q_1, .inl (cs 0, 96048, .inl (fun _ => 0))), (q_2, .inl (cs 0, 8192, .inl (fun _ => 0))), (q_3, .inl (cs 1, 2001, .inr (.inl (fun _ => 0)))), (q_4, .inl (cs 0, 96048, .inl (fun _ => 0))), (q_5, .inl (cs 0, 8192, .inl (fun _ => 0)))] := hD
  refine lv_aload_n hx hb dX12_room_37 rfl (lv_at hl 1 rfl) ?_
  refine xget C hP 0 rfl rfl zuX12 23 (by decide) zw5_236 rfl dX12_room_38 ?_
  refine lv_iload_n hx hb dX12_room_41 rfl (lv_at hl 0 rfl) ?_
  refine lv_sipush (v := nI 2001) hx hb dX12_room_42 (by decide) ?_
  refine xnewl (n := 2001) C hP hD hS zw2_84 rfl (by decide) (Nat.le_of_ble_eq_true rfl) (Nat.le_of_ble_eq_true rfl) dX12_room_45 ?_
  clear hP hD hS
  try clear H
  intro q_6 H hP hD hS
  refine W.widen (k := 6) (n := 212482) (Nat.le_of_ble_eq_true rfl) (Nat.le_of_ble_eq_true rfl) ?_
  replace hP : va_P D vwCl [(hm, .inr (12, [.ref ms, .ref mkp, .int (nI km), .ref mtr, .int (nI n), .int (nI k), .int (nI al), .int (nI be), .int ea, .int pr, .ref mas, .int nq, .int po, .int (nI en), .ref mso, .ref mon, .ref mot, .ref man, .int th, .int xd, .ref mst, .ref msm, .ref mtb, .ref mti, .ref mfr, .ref mbn, .ref mbs, .ref mde, .int sF, .int sN, .int sS, .int ig, .long xa, .long xb, .ref maa, .ref mab, .ref mba, .ref mbb])), (mst, .inl (cs 5, 2, .inr (.inr (.inr (.inr (va_up (va_up fst 0 (some q_1)) 1 (some q_4))))))), (mtb, .inl (cs 5, 2, .inr (.inr (.inr (.inr (va_up (va_up ftb 0 (some q_2)) 1 (some q_5))))))), (mti, .inl (cs 6, 2, .inr (.inr (.inr (.inr (va_up fti 0 (some q_3))))))), (q_1, .inl (cs 0, 96048, .inl (fun _ => 0))), (q_2, .inl (cs 0, 8192, .inl (fun _ => 0))), (q_3, .inl (cs 1, 2001, .inr (.inl (fun _ => 0)))), (q_4, .inl (cs 0, 96048, .inl (fun _ => 0))), (q_5, .inl (cs 0, 8192, .inl (fun _ => 0))), (q_6, .inl (cs 1, 2001, .inr (.inl (fun _ => 0))))] H := hP
  replace hD : va_D A [(hm, .inr (12, [.ref ms, .ref mkp, .int (nI km), .ref mtr, .int (nI n), .int (nI k), .int (nI al), .int (nI be), .int ea, .int pr, .ref mas, .int nq, .int po, .int (nI en), .ref mso, .ref mon, .ref mot, .ref man, .int th, .int xd, .ref mst, .ref msm, .ref mtb, .ref mti, .ref mfr, .ref mbn, .ref mbs, .ref mde, .int sF, .int sN, .int sS, .int ig, .long xa, .long xb, .ref maa, .ref mab, .ref mba, .ref mbb])), (mst, .inl (cs 5, 2, .inr (.inr (.inr (.inr (va_up (va_up fst 0 (some q_1)) 1 (some q_4))))))), (mtb, .inl (cs 5, 2, .inr (.inr (.inr (.inr (va_up (va_up ftb 0 (some q_2)) 1 (some q_5))))))), (mti, .inl (cs 6, 2, .inr (.inr (.inr (.inr (va_up fti 0 (some q_3))))))), (q_1, .inl (cs 0, 96048, .inl (fun _ => 0))), (q_2, .inl (cs 0, 8192, .inl (fun _ => 0))), (q_3, .inl (cs 1, 2001, .inr (.inl (fun _ => 0)))), (q_4, .inl (cs 0, 96048, .inl (fun _ => 0))), (q_5, .inl (cs 0, 8192, .inl (fun _ => 0))), (q_6, .inl (cs 1, 2001, .inr (.inl (fun _ => 0))))] := hD
  refine xaastA C hP hD hS 3 6 9 1 rfl rfl rfl (fun h => h) hAO.2.2.2.2 rfl 1 rfl (by decide) (by decide) dX12_room_47 ?_
  clear hP hD hS
  try clear locs
  try clear H
  intro H locs hP hD hS
  replace hP : va_P D vwCl [(hm, .inr (12, [.ref ms, .ref mkp, .int (nI km), .ref mtr, .int (nI n), .int (nI k), .int (nI al), .int (nI be), .int ea, .int pr, .ref mas, .int nq, .int po, .int (nI en), .ref mso, .ref mon, .ref mot, .ref man, .int th, .int xd, .ref mst, .ref msm, .ref mtb, .ref mti, .ref mfr, .ref mbn, .ref mbs, .ref mde, .int sF, .int sN, .int sS, .int ig, .long xa, .long xb, .ref maa, .ref mab, .ref mba, .ref mbb])), (mst, .inl (cs 5, 2, .inr (.inr (.inr (.inr (va_up (va_up fst 0 (some q_1)) 1 (some q_4))))))), (mtb, .inl (cs 5, 2, .inr (.inr (.inr (.inr (va_up (va_up ftb 0 (some q_2)) 1 (some q_5))))))), (mti, .inl (cs 6, 2, .inr (.inr (.inr (.inr (va_up (va_up fti 0 (some q_3)) 1 (some q_6))))))), (q_1, .inl (cs 0, 96048, .inl (fun _ => 0))), (q_2, .inl (cs 0, 8192, .inl (fun _ => 0))), (q_3, .inl (cs 1, 2001, .inr (.inl (fun _ => 0)))), (q_4, .inl (cs 0, 96048, .inl (fun _ => 0))), (q_5, .inl (cs 0, 8192, .inl (fun _ => 0))), (q_6, .inl (cs 1, 2001, .inr (.inl (fun _ => 0))))] H := hP
  replace hD : va_D A [(hm, .inr (12, [.ref ms, .ref mkp, .int (nI km), .ref mtr, .int (nI n), .int (nI k), .int (nI al), .int (nI be), .int ea, .int pr, .ref mas, .int nq, .int po, .int (nI en), .ref mso, .ref mon, .ref mot, .ref man, .int th, .int xd, .ref mst, .ref msm, .ref mtb, .ref mti, .ref mfr, .ref mbn, .ref mbs, .ref mde, .int sF, .int sN, .int sS, .int ig, .long xa, .long xb, .ref maa, .ref mab, .ref mba, .ref mbb])), (mst, .inl (cs 5, 2, .inr (.inr (.inr (.inr (va_up (va_up fst 0 (some q_1)) 1 (some q_4))))))), (mtb, .inl (cs 5, 2, .inr (.inr (.inr (.inr (va_up (va_up ftb 0 (some q_2)) 1 (some q_5))))))), (mti, .inl (cs 6, 2, .inr (.inr (.inr (.inr (va_up (va_up fti 0 (some q_3)) 1 (some q_6))))))), (q_1, .inl (cs 0, 96048, .inl (fun _ => 0))), (q_2, .inl (cs 0, 8192, .inl (fun _ => 0))), (q_3, .inl (cs 1, 2001, .inr (.inl (fun _ => 0)))), (q_4, .inl (cs 0, 96048, .inl (fun _ => 0))), (q_5, .inl (cs 0, 8192, .inl (fun _ => 0))), (q_6, .inl (cs 1, 2001, .inr (.inl (fun _ => 0))))] := hD
  refine lv_iinc (v := nI 2) (lv' := [(1, .int (nI 2)), (0, .ref hm)]) hx hb dX12_room_48 hl (k := 0) rfl (by decide) (by decide) rfl ?_
  clear hl
  try clear ls
  intro ls hl
  refine lv_goto (tgt := 2) hx hb dX12_room_51 (by decide) ?_
  refine lv_iload_n hx hb dX12_room_2 rfl (lv_at hl 0 rfl) ?_
  refine lv_iconst (v := nI 2) hx hb dX12_room_3 (by decide) ?_
  refine lv_icmp_ge (tgt := 54) hx hb dX12_room_4 (by decide) (fun _ => ?_) (fun c => absurd (by decide) c)
  exact xretv C (⟨q_1, q_2, q_3, q_4, q_5, q_6, (va_up (va_up fst 0 (some q_1)) 1 (some q_4)), (va_up (va_up ftb 0 (some q_2)) 1 (some q_5)), (va_up (va_up fti 0 (some q_3)) 1 (some q_6))⟩) (⟨rfl, rfl, rfl, rfl, rfl, rfl⟩) hP hD hS (Nat.le_of_ble_eq_true rfl) (Nat.le_of_ble_eq_true rfl) dX12_room_54

set_option maxHeartbeats 4000000 in
set_option maxRecDepth 100000 in
theorem c_X12_room_a (l : Launch) (D : va_G) (cs : Nat → ClassId) (hm ms mkp mtr mas mso mon mot man mst msm mtb mti mfr mbn mbs mde maa mab mba mbb : Nat) (n k al be km en : Nat) (ea pr nq po th xd sF sN sS ig : Int32) (xa xb : Int64) (fst : Nat → Option Nat) (st0 : Nat) (hf0 : fst 0 = some st0) : xMet l D cs yX12_room cX12_room 2 none ({ frames := 0, cells := 0, slots := 0, locals := 0 } : Room) [.ref hm] [(hm, .inr (12, [.ref ms, .ref mkp, .int (nI km), .ref mtr, .int (nI n), .int (nI k), .int (nI al), .int (nI be), .int ea, .int pr, .ref mas, .int nq, .int po, .int (nI en), .ref mso, .ref mon, .ref mot, .ref man, .int th, .int xd, .ref mst, .ref msm, .ref mtb, .ref mti, .ref mfr, .ref mbn, .ref mbs, .ref mde, .int sF, .int sN, .int sS, .int ig, .long xa, .long xb, .ref maa, .ref mab, .ref mba, .ref mbb])), (mst, .inl (cs 5, 2, .inr (.inr (.inr (.inr fst)))))] (xQv D (fun (_u : Unit) => True) (fun (_u : Unit) => [(hm, .inr (12, [.ref ms, .ref mkp, .int (nI km), .ref mtr, .int (nI n), .int (nI k), .int (nI al), .int (nI be), .int ea, .int pr, .ref mas, .int nq, .int po, .int (nI en), .ref mso, .ref mon, .ref mot, .ref man, .int th, .int xd, .ref mst, .ref msm, .ref mtb, .ref mti, .ref mfr, .ref mbn, .ref mbs, .ref mde, .int sF, .int sN, .int sS, .int ig, .long xa, .long xb, .ref maa, .ref mab, .ref mba, .ref mbb])), (mst, .inl (cs 5, 2, .inr (.inr (.inr (.inr fst)))))])) := by
  refine xMet.intro (by decide) (Nat.le_of_ble_eq_true rfl) ?_
  intro p e s m args below meth c A ls C hP hD hS hl
  have hx := C.1
  have hb := C.2.1
  have hz := C.2.2.2.2.1
  have hown := C.2.2.2.1
  have hA := C.2.2.2.2.2.2.2.2.2
  have hAO := C.2.2.2.2.2.2.2.2.1.2.2
  replace hl : lv_has ls 2 [(0, .ref hm)] := hl
  obtain ⟨H, hH⟩ : ∃ H, H = s.heap := ⟨_, rfl⟩
  replace hP : va_P D vwCl [(hm, .inr (12, [.ref ms, .ref mkp, .int (nI km), .ref mtr, .int (nI n), .int (nI k), .int (nI al), .int (nI be), .int ea, .int pr, .ref mas, .int nq, .int po, .int (nI en), .ref mso, .ref mon, .ref mot, .ref man, .int th, .int xd, .ref mst, .ref msm, .ref mtb, .ref mti, .ref mfr, .ref mbn, .ref mbs, .ref mde, .int sF, .int sN, .int sS, .int ig, .long xa, .long xb, .ref maa, .ref mab, .ref mba, .ref mbb])), (mst, .inl (cs 5, 2, .inr (.inr (.inr (.inr fst)))))] H := by rw [hH]; exact hP
  replace hS : va_S A s.heap H [] := by rw [hH]; exact hS
  obtain ⟨locs, hlocs⟩ : ∃ z : List Loc, z = [] := ⟨_, rfl⟩
  rw [← hlocs] at hS
  suffices hW : W p l e ({ frames := 0, cells := 0, slots := 0, locals := 0 } : Room) s m args below meth c H locs 0 0 (MQ below ((xQv D (fun (_u : Unit) => True) (fun (_u : Unit) => [(hm, .inr (12, [.ref ms, .ref mkp, .int (nI km), .ref mtr, .int (nI n), .int (nI k), .int (nI al), .int (nI be), .int ea, .int pr, .ref mas, .int nq, .int po, .int (nI en), .ref mso, .ref mon, .ref mot, .ref man, .int th, .int xd, .ref mst, .ref msm, .ref mtb, .ref mti, .ref mfr, .ref mbn, .ref mbs, .ref mde, .int sF, .int sN, .int sS, .int ig, .long xa, .long xb, .ref maa, .ref mab, .ref mba, .ref mbb])), (mst, .inl (cs 5, 2, .inr (.inr (.inr (.inr fst)))))])) A) args s 0 0 A) (F0 m 0 ls []) by rw [hlocs, hH] at hW; exact hW
  clear hH hlocs
  refine lv_iconst (v := nI 0) hx hb dX12_room_0 (by decide) ?_
  refine lv_istore_n (lv' := [(1, .int (nI 0)), (0, .ref hm)]) hx hb dX12_room_1 rfl hl (by decide) rfl ?_
  clear hl
  try clear ls
  intro ls hl
  refine lv_iload_n hx hb dX12_room_2 rfl (lv_at hl 0 rfl) ?_
  refine lv_iconst (v := nI 2) hx hb dX12_room_3 (by decide) ?_
  refine lv_icmp_ge (tgt := 54) hx hb dX12_room_4 (by decide) (fun c => absurd c (by decide)) (fun _ => ?_)
  refine lv_aload_n hx hb dX12_room_7 rfl (lv_at hl 1 rfl) ?_
  refine xget C hP 0 rfl rfl zuX12 20 (by decide) zw5_233 rfl dX12_room_8 ?_
  refine lv_iload_n hx hb dX12_room_11 rfl (lv_at hl 0 rfl) ?_
  refine xaald C hP 1 5 rfl rfl rfl 0 rfl (by decide) (by decide) hf0 dX12_room_12 ?_
  refine lv_ifnonnull (tgt := 54) hx hb dX12_room_13 (by decide) ?_
  exact xretv C () trivial hP hD hS (Nat.le_of_ble_eq_true rfl) (Nat.le_of_ble_eq_true rfl) dX12_room_54
