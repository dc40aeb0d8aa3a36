set_option maxHeartbeats 4000000 in
set_option maxRecDepth 100000 in
theorem c_X9_hash_f (l : Launch) (D : va_G) (cs : Nat → ClassId) (a : Nat) (f : Nat → Int32) : xMet l D cs yX9_hash cX9_hash 3 (some .int) ({ frames := 0, cells := 0, slots := 0, locals := 0 } : Room) [.ref a] [(a, .inl (cs 0, 8, .inl f))] (xQi D (fun (r : Int32) (_u : Unit) => r = nI (hsN f)) (fun (_u : Unit) => [(a, .inl (cs 0, 8, .inl f))])) := by
  refine xMet.intro (by decide) (Nat.le_of_ble_eq_true rfl) ?_
  intro p e s m args below meth c A ls C hP hD hS hl
  have hx := C.1
  have hb := C.2.1
  have hz := C.2.2.2.2.1
  have hown := C.2.2.2.1
  have hA := C.2.2.2.2.2.2.2.2.2
  have hAO := C.2.2.2.2.2.2.2.2.1.2.2
  replace hl : lv_has ls 3 [(0, .ref a)] := hl
  obtain ⟨H, hH⟩ : ∃ H, H = s.heap := ⟨_, rfl⟩
  replace hP : va_P D vwCl [(a, .inl (cs 0, 8, .inl f))] H := by rw [hH]; exact hP
  replace hS : va_S A s.heap H [] := by rw [hH]; exact hS
  obtain ⟨locs, hlocs⟩ : ∃ z : List Loc, z = [] := ⟨_, rfl⟩
  rw [← hlocs] at hS
  suffices hW : W p l e ({ frames := 0, cells := 0, slots := 0, locals := 0 } : Room) s m args below meth c H locs 0 0 (MQ below ((xQi D (fun (r : Int32) (_u : Unit) => r = nI (hsN f)) (fun (_u : Unit) => [(a, .inl (cs 0, 8, .inl f))])) A) args s 0 0 A) (F0 m 0 ls []) by rw [hlocs, hH] at hW; exact hW
  clear hH hlocs
  refine lv_iconst (v := nI 0) hx hb dX9_hash_0 (by decide) ?_
  refine lv_istore_n (lv' := [(1, .int (nI 0)), (0, .ref a)]) hx hb dX9_hash_1 rfl hl (by decide) rfl ?_
  clear hl
  try clear ls
  intro ls hl
  refine lv_iconst (v := nI 0) hx hb dX9_hash_2 (by decide) ?_
  refine lv_istore_n (lv' := [(2, .int (nI 0)), (1, .int (nI 0)), (0, .ref a)]) hx hb dX9_hash_3 rfl hl (by decide) rfl ?_
  clear hl
  try clear ls
  intro ls hl
  have loop_1 : ∀ (n_loop_1 : Nat) (i : Nat) (mx : Int32), (i ≤ 8) → (mx = hxF f i) → 8 - i < n_loop_1 → ∀ (H : Heap) (locs : List Loc) (ls : Array Slot), va_P D vwCl [(a, .inl (cs 0, 8, .inl f))] H → va_D A [(a, .inl (cs 0, 8, .inl f))] → va_S A s.heap H locs → lv_has ls 3 [(2, .int (nI i)), (1, .int mx), (0, .ref a)] → W p l e ({ frames := 0, cells := 0, slots := 0, locals := 0 } : Room) s m args below meth c H locs 0 0 (MQ below ((xQi D (fun (r : Int32) (_u : Unit) => r = nI (hsN f)) (fun (_u : Unit) => [(a, .inl (cs 0, 8, .inl f))])) A) args s 0 0 A) (F0 m 4 ls []) := by
    intro n_loop_1
    induction n_loop_1 with
    | zero => intro i mx h_i hmx hlt H locs ls hP hD hS hl; exact absurd hlt (Nat.not_lt_zero _)
    | succ n_loop_1 ih_loop_1 =>
      intro i mx h_i hmx hlt_loop_1 H locs ls hP hD hS hl
      refine lv_iload_n hx hb dX9_hash_4 rfl (lv_at hl 0 rfl) ?_
      refine lv_bipush (v := nI 8) hx hb dX9_hash_5 (by decide) ?_
      refine lv_icmp_ge (tgt := 32) hx hb dX9_hash_7 (by decide) (fun c_2 => ?_) (fun c_2 => ?_)
      · -- 7 t
        have fc_2 : 8 ≤ i := nf_le (by omega) (by omega) c_2
        refine lv_iload_n hx hb dX9_hash_32 rfl (lv_at hl 1 rfl) ?_
        refine lv_sipush (v := nI 4095) hx hb dX9_hash_33 (by decide) ?_
        refine lv_iand hx hb dX9_hash_36 ?_
        exact xreti C () (by have q7 : i = 8 := (by omega); rw [hmx, q7]; exact (hsN_eq f).1) hP hD hS (Nat.le_of_ble_eq_true rfl) (Nat.le_of_ble_eq_true rfl) rfl dX9_hash_37
      · -- 7 f
        have fc_2 : i < 8 := nf_nle (by omega) (by omega) c_2
        refine lv_iload_n hx hb dX9_hash_10 rfl (lv_at hl 1 rfl) ?_
        refine lv_aload_n hx hb dX9_hash_11 rfl (lv_at hl 2 rfl) ?_
        refine lv_iload_n hx hb dX9_hash_12 rfl (lv_at hl 0 rfl) ?_
        refine xiald C hP 0 rfl i rfl (by omega) (by decide) dX9_hash_13 ?_
        refine lv_ixor hx hb dX9_hash_14 ?_
        refine lv_ldc (v := (-1640531535)) hx hb hown (hz _ zw3_195) dX9_hash_15 ?_
        refine lv_imul hx hb dX9_hash_17 ?_
        refine lv_istore_n (lv' := [(1, .int ((mx ^^^ (f i)) * (-1640531535))), (2, .int (nI i)), (0, .ref a)]) hx hb dX9_hash_18 rfl hl (by decide) rfl ?_
        clear hl
        try clear ls
        intro ls hl
        refine lv_iload_n hx hb dX9_hash_19 rfl (lv_at hl 0 rfl) ?_
        refine lv_iload_n hx hb dX9_hash_20 rfl (lv_at hl 0 rfl) ?_
        refine lv_bipush (v := nI 15) hx hb dX9_hash_21 (by decide) ?_
        refine lv_iushr hx hb dX9_hash_23 rfl ?_
        refine lv_ixor hx hb dX9_hash_24 ?_
        refine lv_istore_n (lv' := [(1, .int (((mx ^^^ (f i)) * (-1640531535)) ^^^ ((((mx ^^^ (f i)) * (-1640531535)).toUInt32 >>> ((nI 15).toUInt32 &&& Int32.toUInt32 31)).toInt32))), (2, .int (nI i)), (0, .ref a)]) hx hb dX9_hash_25 rfl hl (by decide) rfl ?_
        clear hl
        try clear ls
        intro ls hl
        refine lv_iinc (v := nI (i + 1)) (lv' := [(2, .int (nI (i + 1))), (1, .int (((mx ^^^ (f i)) * (-1640531535)) ^^^ ((((mx ^^^ (f i)) * (-1640531535)).toUInt32 >>> ((nI 15).toUInt32 &&& Int32.toUInt32 31)).toInt32))), (0, .ref a)]) hx hb dX9_hash_26 hl (k := 1) rfl (nI_add i 1) (by decide) rfl ?_
        clear hl
        try clear ls
        intro ls hl
        refine lv_goto (tgt := 4) hx hb dX9_hash_29 (by decide) ?_
        exact ih_loop_1 (i + 1) (((mx ^^^ (f i)) * (-1640531535)) ^^^ ((((mx ^^^ (f i)) * (-1640531535)).toUInt32 >>> ((nI 15).toUInt32 &&& Int32.toUInt32 31)).toInt32)) (by omega) (by rw [hmx]; rfl) (by omega) H locs ls hP hD hS (lv_sub hl [0, 1, 2] rfl)
  exact loop_1 _ 0 (nI 0) (by omega) rfl (Nat.lt_succ_self _) H locs ls hP hD hS (lv_sub hl [0, 1, 2] rfl)

set_option maxHeartbeats 4000000 in
set_option maxRecDepth 100000 in
theorem c_X9_isAt_f (l : Launch) (D : va_G) (cs : Nat → ClassId) (hs ra1 sa1 : Nat) (rf1 sf1 : Nat → Int32) (sz1 : Nat) (a : Nat) (f : Nat → Int32) (v : Nat) (hv : v < 2001) : xMet l D cs yX9_isAt cX9_isAt 5 (some .boolean) ({ frames := 0, cells := 0, slots := 0, locals := 0 } : Room) [.ref hs, .int (nI v), .ref a] [(hs, .inr (9, [.ref ra1, .ref sa1, .int (nI sz1)])), (ra1, .inl (cs 0, 16008, .inl rf1)), (sa1, .inl (cs 0, 4096, .inl sf1)), (a, .inl (cs 0, 8, .inl f))] (xQi D (fun (r : Int32) (_u : Unit) => PQ (rwE rf1 v f) r (nI 1) (nI 0)) (fun (_u : Unit) => [(hs, .inr (9, [.ref ra1, .ref sa1, .int (nI sz1)])), (ra1, .inl (cs 0, 16008, .inl rf1)), (sa1, .inl (cs 0, 4096, .inl sf1)), (a, .inl (cs 0, 8, .inl f))])) := by
  refine xMet.intro (by decide) (Nat.le_of_ble_eq_true rfl) ?_
  intro p e s m args below meth c A ls C hP hD hS hl
  have hx := C.1
  have hb := C.2.1
  have hz := C.2.2.2.2.1
  have hown := C.2.2.2.1
  have hA := C.2.2.2.2.2.2.2.2.2
  have hAO := C.2.2.2.2.2.2.2.2.1.2.2
  replace hl : lv_has ls 5 [(0, .ref hs), (1, .int (nI v)), (2, .ref a)] := hl
  obtain ⟨H, hH⟩ : ∃ H, H = s.heap := ⟨_, rfl⟩
  replace hP : va_P D vwCl [(hs, .inr (9, [.ref ra1, .ref sa1, .int (nI sz1)])), (ra1, .inl (cs 0, 16008, .inl rf1)), (sa1, .inl (cs 0, 4096, .inl sf1)), (a, .inl (cs 0, 8, .inl f))] H := by rw [hH]; exact hP
  replace hS : va_S A s.heap H [] := by rw [hH]; exact hS
  obtain ⟨locs, hlocs⟩ : ∃ z : List Loc, z = [] := ⟨_, rfl⟩
  rw [← hlocs] at hS
  suffices hW : W p l e ({ frames := 0, cells := 0, slots := 0, locals := 0 } : Room) s m args below meth c H locs 0 0 (MQ below ((xQi D (fun (r : Int32) (_u : Unit) => PQ (rwE rf1 v f) r (nI 1) (nI 0)) (fun (_u : Unit) => [(hs, .inr (9, [.ref ra1, .ref sa1, .int (nI sz1)])), (ra1, .inl (cs 0, 16008, .inl rf1)), (sa1, .inl (cs 0, 4096, .inl sf1)), (a, .inl (cs 0, 8, .inl f))])) A) args s 0 0 A) (F0 m 0 ls []) by rw [hlocs, hH] at hW; exact hW
  clear hH hlocs
  refine lv_iload_n hx hb dX9_isAt_0 rfl (lv_at hl 1 rfl) ?_
  refine lv_bipush (v := nI 8) hx hb dX9_isAt_1 (by decide) ?_
  refine lv_imul hx hb dX9_isAt_3 ?_
  refine lv_topi (nm_r (e' := nI (v * 8)) (pk_mul _ _) ?_)
  refine lv_istore_n (lv' := [(3, .int (nI (v * 8))), (0, .ref hs), (1, .int (nI v)), (2, .ref a)]) hx hb dX9_isAt_4 rfl hl (by decide) rfl ?_
  clear hl
  try clear ls
  intro ls hl
  refine lv_iconst (v := nI 0) hx hb dX9_isAt_5 (by decide) ?_
  refine lv_istore (lv' := [(4, .int (nI 0)), (3, .int (nI (v * 8))), (0, .ref hs), (1, .int (nI v)), (2, .ref a)]) hx hb dX9_isAt_6 hl (by decide) rfl ?_
  clear hl
  try clear ls
  intro ls hl
  have loop_1 : ∀ (n_loop_1 : Nat) (i : Nat), (i ≤ 8) → (∀ j, j < i → rf1 (v * 8 + j) = f j) → 8 - i < n_loop_1 → ∀ (H : Heap) (locs : List Loc) (ls : Array Slot), va_P D vwCl [(hs, .inr (9, [.ref ra1, .ref sa1, .int (nI sz1)])), (ra1, .inl (cs 0, 16008, .inl rf1)), (sa1, .inl (cs 0, 4096, .inl sf1)), (a, .inl (cs 0, 8, .inl f))] H → va_D A [(hs, .inr (9, [.ref ra1, .ref sa1, .int (nI sz1)])), (ra1, .inl (cs 0, 16008, .inl rf1)), (sa1, .inl (cs 0, 4096, .inl sf1)), (a, .inl (cs 0, 8, .inl f))] → va_S A s.heap H locs → lv_has ls 5 [(4, .int (nI i)), (3, .int (nI (v * 8))), (0, .ref hs), (1, .int (nI v)), (2, .ref a)] → W p l e ({ frames := 0, cells := 0, slots := 0, locals := 0 } : Room) s m args below meth c H locs 0 0 (MQ below ((xQi D (fun (r : Int32) (_u : Unit) => PQ (rwE rf1 v f) r (nI 1) (nI 0)) (fun (_u : Unit) => [(hs, .inr (9, [.ref ra1, .ref sa1, .int (nI sz1)])), (ra1, .inl (cs 0, 16008, .inl rf1)), (sa1, .inl (cs 0, 4096, .inl sf1)), (a, .inl (cs 0, 8, .inl f))])) A) args s 0 0 A) (F0 m 8 ls []) := by
    intro n_loop_1
    induction n_loop_1 with
    | zero => intro i h_i hia hlt H locs ls hP hD hS hl; exact absurd hlt (Nat.not_lt_zero _)
    | succ n_loop_1 ih_loop_1 =>
      intro i h_i hia hlt_loop_1 H locs ls hP hD hS hl
      refine lv_iload hx hb dX9_isAt_8 (lv_at hl 0 rfl) ?_
      refine lv_bipush (v := nI 8) hx hb dX9_isAt_10 (by decide) ?_
      refine lv_icmp_ge (tgt := 39) hx hb dX9_isAt_12 (by decide) (fun c_2 => ?_) (fun c_2 => ?_)
      · -- 12 t
        have fc_2 : 8 ≤ i := nf_le (by omega) (by omega) c_2
        refine lv_iconst (v := nI 1) hx hb dX9_isAt_39 (by decide) ?_
        exact xreti C () (Or.inl ⟨fun j hj => hia j (by omega), rfl⟩) hP hD hS (Nat.le_of_ble_eq_true rfl) (Nat.le_of_ble_eq_true rfl) (by decide) dX9_isAt_40
      · -- 12 f
        have fc_2 : i < 8 := nf_nle (by omega) (by omega) c_2
        refine lv_aload_n hx hb dX9_isAt_15 rfl (lv_at hl 2 rfl) ?_
        refine xget C hP 0 rfl rfl zuX9 0 (by decide) zw3_169 rfl dX9_isAt_16 ?_
        refine lv_iload_n hx hb dX9_isAt_19 rfl (lv_at hl 1 rfl) ?_
        refine lv_iload hx hb dX9_isAt_20 (lv_at hl 0 rfl) ?_
        refine lv_iadd hx hb dX9_isAt_22 ?_
        refine lv_topi (nm_r (e' := nI ((v * 8) + i)) (nI_add _ _) ?_)
        refine xiald C hP 1 rfl ((v * 8) + i) rfl (by omega) (by decide) dX9_isAt_23 ?_
        refine lv_aload_n hx hb dX9_isAt_24 rfl (lv_at hl 4 rfl) ?_
        refine lv_iload hx hb dX9_isAt_25 (lv_at hl 0 rfl) ?_
        refine xiald C hP 3 rfl i rfl (by omega) (by decide) dX9_isAt_27 ?_
        refine lv_icmp_eq (tgt := 33) hx hb dX9_isAt_28 (by decide) (fun c_3 => ?_) (fun c_3 => ?_)
        · -- 28 t
          refine lv_iinc (v := nI (i + 1)) (lv' := [(4, .int (nI (i + 1))), (3, .int (nI (v * 8))), (0, .ref hs), (1, .int (nI v)), (2, .ref a)]) hx hb dX9_isAt_33 hl (k := 0) rfl (nI_add i 1) (by decide) rfl ?_
          clear hl
          try clear ls
          intro ls hl
          refine lv_goto (tgt := 8) hx hb dX9_isAt_36 (by decide) ?_
          exact ih_loop_1 (i + 1) (by omega) (fun j hj => by by_cases q : j = i; subst q; exact c_3; exact hia j (by omega)) (by omega) H locs ls hP hD hS (lv_sub hl [0, 1, 2, 3, 4] rfl)
        · -- 28 f
          refine lv_iconst (v := nI 0) hx hb dX9_isAt_31 (by decide) ?_
          exact xreti C () (Or.inr ⟨fun q => c_3 (q i (by omega)), rfl⟩) hP hD hS (Nat.le_of_ble_eq_true rfl) (Nat.le_of_ble_eq_true rfl) (by decide) dX9_isAt_32
  exact loop_1 _ 0 (by omega) (fun j hj => absurd hj (Nat.not_lt_zero _)) (Nat.lt_succ_self _) H locs ls hP hD hS (lv_sub hl [0, 1, 2, 3, 4] rfl)

set_option maxHeartbeats 4000000 in
set_option maxRecDepth 100000 in
theorem c_X9_slotOf_f (l : Launch) (D : va_G) (cs : Nat → ClassId) (hs ra1 sa1 : Nat) (rf1 sf1 : Nat → Int32) (sz1 : Nat) (a : Nat) (f : Nat → Int32) (hsl : slP sz1 sf1) (hsz : sz1 ≤ 2001) (hht : tbC rf1 sf1 sz1) : xMet l D cs yX9_slotOf cX9_slotOf 4 (some .int) ({ frames := 1, cells := 0, slots := 0, locals := 24 } : Room) [.ref hs, .ref a] [(hs, .inr (9, [.ref ra1, .ref sa1, .int (nI sz1)])), (ra1, .inl (cs 0, 16008, .inl rf1)), (sa1, .inl (cs 0, 4096, .inl sf1)), (a, .inl (cs 0, 8, .inl f))] (xQi D (fun (r : Int32) (_u : Unit) => ∃ s c, s < 4096 ∧ r = nI s ∧ s = (hsN f + c) % 4096 ∧ slC rf1 sf1 sz1 f c ∧ (sf1 s = nI 0 ∨ ∃ m, m < sz1 ∧ sf1 s = nI (m + 1) ∧ rwE rf1 m f)) (fun (_u : Unit) => [(hs, .inr (9, [.ref ra1, .ref sa1, .int (nI sz1)])), (ra1, .inl (cs 0, 16008, .inl rf1)), (sa1, .inl (cs 0, 4096, .inl sf1)), (a, .inl (cs 0, 8, .inl f))])) := by
  refine xMet.intro (by decide) (Nat.le_of_ble_eq_true rfl) ?_
  intro p e s m args below meth c A ls C hP hD hS hl
  have hx := C.1
  have hb := C.2.1
  have hz := C.2.2.2.2.1
  have hown := C.2.2.2.1
  have hA := C.2.2.2.2.2.2.2.2.2
  have hAO := C.2.2.2.2.2.2.2.2.1.2.2
  replace hl : lv_has ls 4 [(0, .ref hs), (1, .ref a)] := hl
  obtain ⟨H, hH⟩ : ∃ H, H = s.heap := ⟨_, rfl⟩
  replace hP : va_P D vwCl [(hs, .inr (9, [.ref ra1, .ref sa1, .int (nI sz1)])), (ra1, .inl (cs 0, 16008, .inl rf1)), (sa1, .inl (cs 0, 4096, .inl sf1)), (a, .inl (cs 0, 8, .inl f))] H := by rw [hH]; exact hP
  replace hS : va_S A s.heap H [] := by rw [hH]; exact hS
  obtain ⟨locs, hlocs⟩ : ∃ z : List Loc, z = [] := ⟨_, rfl⟩
  rw [← hlocs] at hS
  suffices hW : W p l e ({ frames := 1, cells := 0, slots := 0, locals := 24 } : Room) s m args below meth c H locs 0 0 (MQ below ((xQi D (fun (r : Int32) (_u : Unit) => ∃ s c, s < 4096 ∧ r = nI s ∧ s = (hsN f + c) % 4096 ∧ slC rf1 sf1 sz1 f c ∧ (sf1 s = nI 0 ∨ ∃ m, m < sz1 ∧ sf1 s = nI (m + 1) ∧ rwE rf1 m f)) (fun (_u : Unit) => [(hs, .inr (9, [.ref ra1, .ref sa1, .int (nI sz1)])), (ra1, .inl (cs 0, 16008, .inl rf1)), (sa1, .inl (cs 0, 4096, .inl sf1)), (a, .inl (cs 0, 8, .inl f))])) A) args s 0 0 A) (F0 m 0 ls []) by rw [hlocs, hH] at hW; exact hW
  clear hH hlocs
  refine lv_aload_n hx hb dX9_slotOf_0 rfl (lv_at hl 1 rfl) ?_
  refine xi (wr := [(hs, .inr (9, [.ref ra1, .ref sa1, .int (nI sz1)])), (ra1, .inl (cs 0, 16008, .inl rf1)), (sa1, .inl (cs 0, 4096, .inl sf1))]) (xS (As := [.ref a]) (rest := []) C (c_X9_hash_f l D cs a f) kX9_28 hP hD [3] rfl (by decide +kernel) ⟨Nat.le_of_ble_eq_true rfl, Nat.le_of_ble_eq_true rfl⟩ rfl hl.1 rfl (Nat.le_of_ble_eq_true rfl) dX9_slotOf_1 ⟨Nat.le_of_ble_eq_true rfl, Nat.le_of_ble_eq_true rfl⟩) hP hD hS hA [3] [0, 1, 2] rfl rfl (by decide +kernel) (by decide +kernel) ?_
  clear hP hD hS
  try clear locs
  try clear H
  intro r_1 u_2 H locs hw_r_1 hP hD hS
  have hw_r_1 : r_1 = nI (hsN f) := hw_r_1
  refine W.widen (k := 0) (n := 0) (Nat.le_of_ble_eq_true rfl) (Nat.le_of_ble_eq_true rfl) ?_
  replace hP : va_P D vwCl [(hs, .inr (9, [.ref ra1, .ref sa1, .int (nI sz1)])), (ra1, .inl (cs 0, 16008, .inl rf1)), (sa1, .inl (cs 0, 4096, .inl sf1)), (a, .inl (cs 0, 8, .inl f))] H := hP
  replace hD : va_D A [(hs, .inr (9, [.ref ra1, .ref sa1, .int (nI sz1)])), (ra1, .inl (cs 0, 16008, .inl rf1)), (sa1, .inl (cs 0, 4096, .inl sf1)), (a, .inl (cs 0, 8, .inl f))] := hD
  obtain rfl : r_1 = nI (hsN f) := hw_r_1
  have hhl := (hsN_eq f).2
  refine lv_istore_n (lv' := [(2, .int (nI (hsN f))), (0, .ref hs), (1, .ref a)]) hx hb dX9_slotOf_4 rfl hl (by decide) rfl ?_
  clear hl
  try clear ls
  intro ls hl
  refine lv_iconst (v := nI 0) hx hb dX9_slotOf_5 (by decide) ?_
  refine lv_istore_n (lv' := [(3, .int (nI 0)), (2, .int (nI (hsN f))), (0, .ref hs), (1, .ref a)]) hx hb dX9_slotOf_6 rfl hl (by decide) rfl ?_
  clear hl
  try clear ls
  intro ls hl
  have loop_3 : ∀ (n_loop_3 : Nat) (i : Nat) (q : Nat), (i ≤ 4096) → (q < 4096) → (q = (hsN f + i) % 4096) → (∀ e, e < i → ¬ sf1 ((hsN f + e) % 4096) = nI 0 ∧ ∀ m, m < sz1 → sf1 ((hsN f + e) % 4096) = nI (m + 1) → ¬ rwE rf1 m f) → 4096 - i < n_loop_3 → ∀ (H : Heap) (locs : List Loc) (ls : Array Slot), va_P D vwCl [(hs, .inr (9, [.ref ra1, .ref sa1, .int (nI sz1)])), (ra1, .inl (cs 0, 16008, .inl rf1)), (sa1, .inl (cs 0, 4096, .inl sf1)), (a, .inl (cs 0, 8, .inl f))] H → va_D A [(hs, .inr (9, [.ref ra1, .ref sa1, .int (nI sz1)])), (ra1, .inl (cs 0, 16008, .inl rf1)), (sa1, .inl (cs 0, 4096, .inl sf1)), (a, .inl (cs 0, 8, .inl f))] → va_S A s.heap H locs → lv_has ls 4 [(3, .int (nI i)), (2, .int (nI q)), (0, .ref hs), (1, .ref a)] → W p l e ({ frames := 1, cells := 0, slots := 0, locals := 24 } : Room) s m args below meth c H locs 0 0 (MQ below ((xQi D (fun (r : Int32) (_u : Unit) => ∃ s c, s < 4096 ∧ r = nI s ∧ s = (hsN f + c) % 4096 ∧ slC rf1 sf1 sz1 f c ∧ (sf1 s = nI 0 ∨ ∃ m, m < sz1 ∧ sf1 s = nI (m + 1) ∧ rwE rf1 m f)) (fun (_u : Unit) => [(hs, .inr (9, [.ref ra1, .ref sa1, .int (nI sz1)])), (ra1, .inl (cs 0, 16008, .inl rf1)), (sa1, .inl (cs 0, 4096, .inl sf1)), (a, .inl (cs 0, 8, .inl f))])) A) args s 0 0 A) (F0 m 7 ls []) := by
    intro n_loop_3
    induction n_loop_3 with
    | zero => intro i q h_i hq hqi hvs hlt H locs ls hP hD hS hl; exact absurd hlt (Nat.not_lt_zero _)
    | succ n_loop_3 ih_loop_3 =>
      intro i q h_i hq hqi hvs hlt_loop_3 H locs ls hP hD hS hl
      refine lv_iload_n hx hb dX9_slotOf_7 rfl (lv_at hl 0 rfl) ?_
      refine lv_sipush (v := nI 4096) hx hb dX9_slotOf_8 (by decide) ?_
      refine lv_icmp_ge (tgt := 53) hx hb dX9_slotOf_11 (by decide) (fun c_4 => ?_) (fun c_4 => ?_)
      · -- 11 t
        have fc_4 : 4096 ≤ i := nf_le (by omega) (by omega) c_4
        refine lv_iload_n hx hb dX9_slotOf_53 rfl (lv_at hl 1 rfl) ?_
        exact xreti C () (by have := hht.full hvs (by omega); omega) hP hD hS (Nat.le_of_ble_eq_true rfl) (Nat.le_of_ble_eq_true rfl) rfl dX9_slotOf_54
      · -- 11 f
        have fc_4 : i < 4096 := nf_nle (by omega) (by omega) c_4
        refine lv_aload_n hx hb dX9_slotOf_14 rfl (lv_at hl 2 rfl) ?_
        refine xget C hP 0 rfl rfl zuX9 1 (by decide) zw3_172 rfl dX9_slotOf_15 ?_
        refine lv_iload_n hx hb dX9_slotOf_18 rfl (lv_at hl 1 rfl) ?_
        refine xiald C hP 2 rfl q rfl (by omega) (by decide) dX9_slotOf_19 ?_
        obtain ⟨t_5, h_t_5, e_t_5⟩ := hsl q hq
        refine lv_topi (nm_r (e' := nI t_5) e_t_5 ?_)
        refine lv_if_eq (tgt := 53) hx hb dX9_slotOf_20 (by decide) (fun c_6 => ?_) (fun c_6 => ?_)
        · -- 20 t
          have fc_6 : t_5 = 0 := nf_eq (by omega) (by omega) c_6
          refine lv_iload_n hx hb dX9_slotOf_53 rfl (lv_at hl 1 rfl) ?_
          exact xreti C () (⟨q, i, hq, rfl, hqi, ⟨by omega, hvs⟩, Or.inl (e_t_5.trans (by rw [show t_5 = 0 by omega]))⟩) hP hD hS (Nat.le_of_ble_eq_true rfl) (Nat.le_of_ble_eq_true rfl) rfl dX9_slotOf_54
        · -- 20 f
          have fc_6 : t_5 ≠ 0 := nf_ne (by omega) (by omega) c_6
          refine lv_aload_n hx hb dX9_slotOf_23 rfl (lv_at hl 2 rfl) ?_
          refine lv_aload_n hx hb dX9_slotOf_24 rfl (lv_at hl 2 rfl) ?_
          refine xget C hP 0 rfl rfl zuX9 1 (by decide) zw3_172 rfl dX9_slotOf_25 ?_
          refine lv_iload_n hx hb dX9_slotOf_28 rfl (lv_at hl 1 rfl) ?_
          refine xiald C hP 2 rfl q rfl (by omega) (by decide) dX9_slotOf_29 ?_
          refine lv_topi (nm_r (e' := nI t_5) e_t_5 ?_)
          refine lv_iconst (v := nI 1) hx hb dX9_slotOf_30 (by decide) ?_
          refine lv_isub hx hb dX9_slotOf_31 ?_
          refine lv_topi (nm_r (e' := nI (t_5 - 1)) (pk_sub (by omega)) ?_)
          refine lv_aload_n hx hb dX9_slotOf_32 rfl (lv_at hl 3 rfl) ?_
          refine xi (wr := []) (xV (As := [.int (nI (t_5 - 1)), .ref a]) (rest := []) C (c_X9_isAt_f l D cs hs ra1 sa1 rf1 sf1 sz1 a f (t_5 - 1) (by omega)) kX9_32 hP hD [0, 1, 2, 3] rfl (by decide +kernel) 0 rfl rfl rfl ⟨Nat.le_of_ble_eq_true rfl, Nat.le_of_ble_eq_true rfl⟩ rfl hl.1 rfl (Nat.le_of_ble_eq_true rfl) dX9_slotOf_33 ⟨Nat.le_of_ble_eq_true rfl, Nat.le_of_ble_eq_true rfl⟩) hP hD hS hA [0, 1, 2, 3] [] rfl rfl (by decide +kernel) (by decide +kernel) ?_
          clear hP hD hS
          try clear locs
          try clear H
          intro r_7 u_8 H locs hw_r_7 hP hD hS
          have hw_r_7 : PQ (rwE rf1 (t_5 - 1) f) r_7 (nI 1) (nI 0) := hw_r_7
          refine W.widen (k := 0) (n := 0) (Nat.le_of_ble_eq_true rfl) (Nat.le_of_ble_eq_true rfl) ?_
          replace hP : va_P D vwCl [(hs, .inr (9, [.ref ra1, .ref sa1, .int (nI sz1)])), (ra1, .inl (cs 0, 16008, .inl rf1)), (sa1, .inl (cs 0, 4096, .inl sf1)), (a, .inl (cs 0, 8, .inl f))] H := hP
          replace hD : va_D A [(hs, .inr (9, [.ref ra1, .ref sa1, .int (nI sz1)])), (ra1, .inl (cs 0, 16008, .inl rf1)), (sa1, .inl (cs 0, 4096, .inl sf1)), (a, .inl (cs 0, 8, .inl f))] := hD
          refine lv_if_ne (tgt := 53) hx hb dX9_slotOf_36 (by decide) (fun c_9 => ?_) (fun c_9 => ?_)
          · -- 36 t
            refine lv_iload_n hx hb dX9_slotOf_53 rfl (lv_at hl 1 rfl) ?_
            exact xreti C () (⟨q, i, hq, rfl, hqi, ⟨by omega, hvs⟩, Or.inr ⟨t_5 - 1, by omega, e_t_5.trans (by rw [show t_5 - 1 + 1 = t_5 by omega]), PQ.yes hw_r_7 c_9⟩⟩) hP hD hS (Nat.le_of_ble_eq_true rfl) (Nat.le_of_ble_eq_true rfl) rfl dX9_slotOf_54
          · -- 36 f
            refine lv_iload_n hx hb dX9_slotOf_39 rfl (lv_at hl 1 rfl) ?_
            refine lv_iconst (v := nI 1) hx hb dX9_slotOf_40 (by decide) ?_
            refine lv_iadd hx hb dX9_slotOf_41 ?_
            refine lv_topi (nm_r (e' := nI (q + 1)) (nI_add _ _) ?_)
            refine lv_sipush (v := nI 4096) hx hb dX9_slotOf_42 (by decide) ?_
            refine lv_irem hx hb dX9_slotOf_45 (by decide) ?_
            refine lv_topi (nm_r (e' := nI ((q + 1) % 4096)) (rem_nat _ (by omega)) ?_)
            refine lv_istore_n (lv' := [(2, .int (nI ((q + 1) % 4096))), (3, .int (nI i)), (0, .ref hs), (1, .ref a)]) hx hb dX9_slotOf_46 rfl hl (by decide) rfl ?_
            clear hl
            try clear ls
            intro ls hl
            refine lv_iinc (v := nI (i + 1)) (lv' := [(3, .int (nI (i + 1))), (2, .int (nI ((q + 1) % 4096))), (0, .ref hs), (1, .ref a)]) hx hb dX9_slotOf_47 hl (k := 1) rfl (nI_add i 1) (by decide) rfl ?_
            clear hl
            try clear ls
            intro ls hl
            refine lv_goto (tgt := 7) hx hb dX9_slotOf_50 (by decide) ?_
            exact ih_loop_3 (i + 1) ((q + 1) % 4096) (by omega) (Nat.mod_lt _ (by decide)) (by omega) (slC.next hvs hqi e_t_5 (by omega) (by omega) (PQ.no hw_r_7 c_9 (by decide)) (by omega)) (by omega) H locs ls hP hD hS (lv_sub hl [0, 1, 2, 3] rfl)
  exact loop_3 _ 0 (hsN f) (by omega) (by assumption) (by omega) (fun e he => absurd he (Nat.not_lt_zero _)) (Nat.lt_succ_self _) H locs ls hP hD hS (lv_sub hl [0, 1, 2, 3] rfl)

set_option maxHeartbeats 4000000 in
set_option maxRecDepth 100000 in
theorem c_X9_at_f (l : Launch) (D : va_G) (cs : Nat → ClassId) (hs ra1 sa1 : Nat) (rf1 sf1 : Nat → Int32) (sz1 : Nat) (j t : Nat) (hj : j < 4096) (ht : sf1 j = nI t) : xMet l D cs yX9_at cX9_at 2 (some .int) ({ frames := 0, cells := 0, slots := 0, locals := 0 } : Room) [.ref hs, .int (nI j)] [(hs, .inr (9, [.ref ra1, .ref sa1, .int (nI sz1)])), (ra1, .inl (cs 0, 16008, .inl rf1)), (sa1, .inl (cs 0, 4096, .inl sf1))] (xQi D (fun (r : Int32) (_u : Unit) => r = nI t - nI 1) (fun (_u : Unit) => [(hs, .inr (9, [.ref ra1, .ref sa1, .int (nI sz1)])), (ra1, .inl (cs 0, 16008, .inl rf1)), (sa1, .inl (cs 0, 4096, .inl sf1))])) := by
  refine xMet.intro (by decide) (Nat.le_of_ble_eq_true rfl) ?_
  intro p e s m args below meth c A ls C hP hD hS hl
  have hx := C.1
  have hb := C.2.1
  have hz := C.2.2.2.2.1
  have hown := C.2.2.2.1
  have hA := C.2.2.2.2.2.2.2.2.2
  have hAO := C.2.2.2.2.2.2.2.2.1.2.2
  replace hl : lv_has ls 2 [(0, .ref hs), (1, .int (nI j))] := hl
  obtain ⟨H, hH⟩ : ∃ H, H = s.heap := ⟨_, rfl⟩
  replace hP : va_P D vwCl [(hs, .inr (9, [.ref ra1, .ref sa1, .int (nI sz1)])), (ra1, .inl (cs 0, 16008, .inl rf1)), (sa1, .inl (cs 0, 4096, .inl sf1))] H := by rw [hH]; exact hP
  replace hS : va_S A s.heap H [] := by rw [hH]; exact hS
  obtain ⟨locs, hlocs⟩ : ∃ z : List Loc, z = [] := ⟨_, rfl⟩
  rw [← hlocs] at hS
  suffices hW : W p l e ({ frames := 0, cells := 0, slots := 0, locals := 0 } : Room) s m args below meth c H locs 0 0 (MQ below ((xQi D (fun (r : Int32) (_u : Unit) => r = nI t - nI 1) (fun (_u : Unit) => [(hs, .inr (9, [.ref ra1, .ref sa1, .int (nI sz1)])), (ra1, .inl (cs 0, 16008, .inl rf1)), (sa1, .inl (cs 0, 4096, .inl sf1))])) A) args s 0 0 A) (F0 m 0 ls []) by rw [hlocs, hH] at hW; exact hW
  clear hH hlocs
  refine lv_aload_n hx hb dX9_at_0 rfl (lv_at hl 0 rfl) ?_
  refine xget C hP 0 rfl rfl zuX9 1 (by decide) zw3_172 rfl dX9_at_1 ?_
  refine lv_iload_n hx hb dX9_at_4 rfl (lv_at hl 1 rfl) ?_
  refine xiald C hP 2 rfl j rfl (by omega) (by decide) dX9_at_5 ?_
  refine lv_iconst (v := nI 1) hx hb dX9_at_6 (by decide) ?_
  refine lv_isub hx hb dX9_at_7 ?_
  exact xreti C () (by rw [ht]) hP hD hS (Nat.le_of_ble_eq_true rfl) (Nat.le_of_ble_eq_true rfl) rfl dX9_at_8

set_option maxHeartbeats 4000000 in
set_option maxRecDepth 100000 in
theorem c_X9_add_f (l : Launch) (D : va_G) (cs : Nat → ClassId) (hs ra1 sa1 : Nat) (rf1 sf1 : Nat → Int32) (sz1 : Nat) (a : Nat) (f : Nat → Int32) (j : Nat) (hsz : sz1 ≤ 2000) (hj : j < 4096) : xMet l D cs yX9_add cX9_add 3 (some .int) ({ frames := 1, cells := 0, slots := 0, locals := 68 } : Room) [.ref hs, .int (nI j), .ref a] [(hs, .inr (9, [.ref ra1, .ref sa1, .int (nI sz1)])), (ra1, .inl (cs 0, 16008, .inl rf1)), (sa1, .inl (cs 0, 4096, .inl sf1)), (a, .inl (cs 0, 8, .inl f))] (xQi D (fun (r : Int32) (_u : Unit) => r = nI sz1) (fun (_u : Unit) => [(hs, .inr (9, [.ref ra1, .ref sa1, .int (nI (sz1 + 1))])), (ra1, .inl (cs 0, 16008, .inl (va_cpy f rf1 0 (sz1 * 8) 8))), (sa1, .inl (cs 0, 4096, .inl (upd sf1 j (nI (sz1 + 1))))), (a, .inl (cs 0, 8, .inl f))])) := by
  refine xMet.intro (by decide) (Nat.le_of_ble_eq_true rfl) ?_
  intro p e s m args below meth c A ls C hP hD hS hl
  have hx := C.1
  have hb := C.2.1
  have hz := C.2.2.2.2.1
  have hown := C.2.2.2.1
  have hA := C.2.2.2.2.2.2.2.2.2
  have hAO := C.2.2.2.2.2.2.2.2.1.2.2
  replace hl : lv_has ls 3 [(0, .ref hs), (1, .int (nI j)), (2, .ref a)] := hl
  obtain ⟨H, hH⟩ : ∃ H, H = s.heap := ⟨_, rfl⟩
  replace hP : va_P D vwCl [(hs, .inr (9, [.ref ra1, .ref sa1, .int (nI sz1)])), (ra1, .inl (cs 0, 16008, .inl rf1)), (sa1, .inl (cs 0, 4096, .inl sf1)), (a, .inl (cs 0, 8, .inl f))] H := by rw [hH]; exact hP
  replace hS : va_S A s.heap H [] := by rw [hH]; exact hS
  obtain ⟨locs, hlocs⟩ : ∃ z : List Loc, z = [] := ⟨_, rfl⟩
  rw [← hlocs] at hS
  suffices hW : W p l e ({ frames := 1, cells := 0, slots := 0, locals := 68 } : Room) s m args below meth c H locs 0 0 (MQ below ((xQi D (fun (r : Int32) (_u : Unit) => r = nI sz1) (fun (_u : Unit) => [(hs, .inr (9, [.ref ra1, .ref sa1, .int (nI (sz1 + 1))])), (ra1, .inl (cs 0, 16008, .inl (va_cpy f rf1 0 (sz1 * 8) 8))), (sa1, .inl (cs 0, 4096, .inl (upd sf1 j (nI (sz1 + 1))))), (a, .inl (cs 0, 8, .inl f))])) A) args s 0 0 A) (F0 m 0 ls []) by rw [hlocs, hH] at hW; exact hW
  clear hH hlocs
  refine lv_aload_n hx hb dX9_add_0 rfl (lv_at hl 0 rfl) ?_
  refine xget C hP 0 rfl rfl zuX9 2 (by decide) zw3_173 rfl dX9_add_1 ?_
  refine lv_sipush (v := nI 2000) hx hb dX9_add_4 (by decide) ?_
  refine lv_icmp_le (tgt := 12) hx hb dX9_add_7 (by decide) (fun _ => ?_) (fun c => absurd ((nI_leI (by omega) (by decide)).mpr hsz) c)
  refine lv_aload_n hx hb dX9_add_12 rfl (lv_at hl 2 rfl) ?_
  refine lv_iconst (v := nI 0) hx hb dX9_add_13 (by decide) ?_
  refine lv_aload_n hx hb dX9_add_14 rfl (lv_at hl 0 rfl) ?_
  refine xget C hP 0 rfl rfl zuX9 0 (by decide) zw3_169 rfl dX9_add_15 ?_
  refine lv_aload_n hx hb dX9_add_18 rfl (lv_at hl 0 rfl) ?_
  refine xget C hP 0 rfl rfl zuX9 2 (by decide) zw3_173 rfl dX9_add_19 ?_
  refine lv_bipush (v := nI 8) hx hb dX9_add_22 (by decide) ?_
  refine lv_imul hx hb dX9_add_24 ?_
  refine lv_topi (nm_r (e' := nI (sz1 * 8)) (pk_mul _ _) ?_)
  refine lv_bipush (v := nI 8) hx hb dX9_add_25 (by decide) ?_
  refine xcopy C hP hD hS 3 1 rfl rfl (sp := 0) (dp := (sz1 * 8)) (k := 8) rfl rfl rfl (by decide) (by omega) ⟨by decide, by decide⟩ zw3_204 zw3_6 zw3_5 zw1_16 (Nat.le_of_ble_eq_true rfl) (Nat.le_of_ble_eq_true rfl) hl.1 dX9_add_27 ?_
  clear hP hD hS
  try clear locs
  try clear H
  intro H locs hP hD hS
  replace hP : va_P D vwCl [(hs, .inr (9, [.ref ra1, .ref sa1, .int (nI sz1)])), (ra1, .inl (cs 0, 16008, .inl (va_cpy f rf1 0 (sz1 * 8) 8))), (sa1, .inl (cs 0, 4096, .inl sf1)), (a, .inl (cs 0, 8, .inl f))] H := hP
  replace hD : va_D A [(hs, .inr (9, [.ref ra1, .ref sa1, .int (nI sz1)])), (ra1, .inl (cs 0, 16008, .inl (va_cpy f rf1 0 (sz1 * 8) 8))), (sa1, .inl (cs 0, 4096, .inl sf1)), (a, .inl (cs 0, 8, .inl f))] := hD
  refine lv_aload_n hx hb dX9_add_30 rfl (lv_at hl 0 rfl) ?_
  refine xget C hP 0 rfl rfl zuX9 1 (by decide) zw3_172 rfl dX9_add_31 ?_
  refine lv_iload_n hx hb dX9_add_34 rfl (lv_at hl 1 rfl) ?_
  refine lv_aload_n hx hb dX9_add_35 rfl (lv_at hl 0 rfl) ?_
  refine xget C hP 0 rfl rfl zuX9 2 (by decide) zw3_173 rfl dX9_add_36 ?_
  refine lv_iconst (v := nI 1) hx hb dX9_add_39 (by decide) ?_
  refine lv_iadd hx hb dX9_add_40 ?_
  refine lv_topi (nm_r (e' := nI (sz1 + 1)) (nI_add _ _) ?_)
  refine xiast C hP hD hS 2 rfl j rfl (by omega) (by decide) dX9_add_41 ?_
  clear hP hD hS
  try clear locs
  try clear H
  intro H locs hP hD hS
  replace hP : va_P D vwCl [(hs, .inr (9, [.ref ra1, .ref sa1, .int (nI sz1)])), (ra1, .inl (cs 0, 16008, .inl (va_cpy f rf1 0 (sz1 * 8) 8))), (sa1, .inl (cs 0, 4096, .inl (upd sf1 j (nI (sz1 + 1))))), (a, .inl (cs 0, 8, .inl f))] H := hP
  replace hD : va_D A [(hs, .inr (9, [.ref ra1, .ref sa1, .int (nI sz1)])), (ra1, .inl (cs 0, 16008, .inl (va_cpy f rf1 0 (sz1 * 8) 8))), (sa1, .inl (cs 0, 4096, .inl (upd sf1 j (nI (sz1 + 1))))), (a, .inl (cs 0, 8, .inl f))] := hD
  refine lv_aload_n hx hb dX9_add_42 rfl (lv_at hl 0 rfl) ?_
  refine lv_dup hx hb dX9_add_43 rfl ?_
  refine xget C hP 0 rfl rfl zuX9 2 (by decide) zw3_173 rfl dX9_add_44 ?_
  refine lv_iconst (v := nI 1) hx hb dX9_add_47 (by decide) ?_
  refine lv_iadd hx hb dX9_add_48 ?_
  refine lv_topi (nm_r (e' := nI (sz1 + 1)) (nI_add _ _) ?_)
  refine xput C hP hD hS 0 rfl rfl zuX9 tyX9 tyX9_ok nmX9 2 (by decide) zw3_173 rfl rfl rfl (Nat.le_of_ble_eq_true rfl) dX9_add_49 ?_
  clear hP hD hS
  try clear locs
  try clear H
  intro H locs hP hD hS
  replace hP : va_P D vwCl [(hs, .inr (9, [.ref ra1, .ref sa1, .int (nI (sz1 + 1))])), (ra1, .inl (cs 0, 16008, .inl (va_cpy f rf1 0 (sz1 * 8) 8))), (sa1, .inl (cs 0, 4096, .inl (upd sf1 j (nI (sz1 + 1))))), (a, .inl (cs 0, 8, .inl f))] H := hP
  replace hD : va_D A [(hs, .inr (9, [.ref ra1, .ref sa1, .int (nI (sz1 + 1))])), (ra1, .inl (cs 0, 16008, .inl (va_cpy f rf1 0 (sz1 * 8) 8))), (sa1, .inl (cs 0, 4096, .inl (upd sf1 j (nI (sz1 + 1))))), (a, .inl (cs 0, 8, .inl f))] := hD
  refine lv_aload_n hx hb dX9_add_52 rfl (lv_at hl 0 rfl) ?_
  refine xget C hP 0 rfl rfl zuX9 2 (by decide) zw3_173 rfl dX9_add_53 ?_
  refine lv_iconst (v := nI 1) hx hb dX9_add_56 (by decide) ?_
  refine lv_isub hx hb dX9_add_57 ?_
  refine lv_topi (nm_r (e' := nI ((sz1 + 1) - 1)) (pk_sub (by omega)) ?_)
  exact xreti C () rfl hP hD hS (Nat.le_of_ble_eq_true rfl) (Nat.le_of_ble_eq_true rfl) rfl dX9_add_58

set_option maxHeartbeats 4000000 in
set_option maxRecDepth 100000 in
theorem c_X9_copyTo_f (l : Launch) (D : va_G) (cs : Nat → ClassId) (hs ra1 sa1 : Nat) (rf1 sf1 : Nat → Int32) (sz1 : Nat) (a : Nat) (f : Nat → Int32) (v : Nat) (hv : v < 2001) : xMet l D cs yX9_copyTo cX9_copyTo 3 none ({ frames := 1, cells := 0, slots := 0, locals := 68 } : Room) [.ref hs, .ref a, .int (nI v)] [(hs, .inr (9, [.ref ra1, .ref sa1, .int (nI sz1)])), (ra1, .inl (cs 0, 16008, .inl rf1)), (sa1, .inl (cs 0, 4096, .inl sf1)), (a, .inl (cs 0, 8, .inl f))] (xQv D (fun (_u : Unit) => True) (fun (_u : Unit) => [(hs, .inr (9, [.ref ra1, .ref sa1, .int (nI sz1)])), (ra1, .inl (cs 0, 16008, .inl rf1)), (sa1, .inl (cs 0, 4096, .inl sf1)), (a, .inl (cs 0, 8, .inl (va_cpy rf1 f (v * 8) 0 8)))])) := by
  refine xMet.intro (by decide) (Nat.le_of_ble_eq_true rfl) ?_
  intro p e s m args below meth c A ls C hP hD hS hl
  have hx := C.1
  have hb := C.2.1
  have hz := C.2.2.2.2.1
  have hown := C.2.2.2.1
  have hA := C.2.2.2.2.2.2.2.2.2
  have hAO := C.2.2.2.2.2.2.2.2.1.2.2
  replace hl : lv_has ls 3 [(0, .ref hs), (1, .ref a), (2, .int (nI v))] := hl
  obtain ⟨H, hH⟩ : ∃ H, H = s.heap := ⟨_, rfl⟩
  replace hP : va_P D vwCl [(hs, .inr (9, [.ref ra1, .ref sa1, .int (nI sz1)])), (ra1, .inl (cs 0, 16008, .inl rf1)), (sa1, .inl (cs 0, 4096, .inl sf1)), (a, .inl (cs 0, 8, .inl f))] H := by rw [hH]; exact hP
  replace hS : va_S A s.heap H [] := by rw [hH]; exact hS
  obtain ⟨locs, hlocs⟩ : ∃ z : List Loc, z = [] := ⟨_, rfl⟩
  rw [← hlocs] at hS
  suffices hW : W p l e ({ frames := 1, cells := 0, slots := 0, locals := 68 } : Room) s m args below meth c H locs 0 0 (MQ below ((xQv D (fun (_u : Unit) => True) (fun (_u : Unit) => [(hs, .inr (9, [.ref ra1, .ref sa1, .int (nI sz1)])), (ra1, .inl (cs 0, 16008, .inl rf1)), (sa1, .inl (cs 0, 4096, .inl sf1)), (a, .inl (cs 0, 8, .inl (va_cpy rf1 f (v * 8) 0 8)))])) A) args s 0 0 A) (F0 m 0 ls []) by rw [hlocs, hH] at hW; exact hW
  clear hH hlocs
  refine lv_aload_n hx hb dX9_copyTo_0 rfl (lv_at hl 0 rfl) ?_
  refine xget C hP 0 rfl rfl zuX9 0 (by decide) zw3_169 rfl dX9_copyTo_1 ?_
  refine lv_iload_n hx hb dX9_copyTo_4 rfl (lv_at hl 2 rfl) ?_
  refine lv_bipush (v := nI 8) hx hb dX9_copyTo_5 (by decide) ?_
  refine lv_imul hx hb dX9_copyTo_7 ?_
  refine lv_topi (nm_r (e' := nI (v * 8)) (pk_mul _ _) ?_)
  refine lv_aload_n hx hb dX9_copyTo_8 rfl (lv_at hl 1 rfl) ?_
  refine lv_iconst (v := nI 0) hx hb dX9_copyTo_9 (by decide) ?_
  refine lv_bipush (v := nI 8) hx hb dX9_copyTo_10 (by decide) ?_
  refine xcopy C hP hD hS 1 3 rfl rfl (sp := (v * 8)) (dp := 0) (k := 8) rfl rfl rfl (by omega) (by decide) ⟨by decide, by decide⟩ zw3_204 zw3_6 zw3_5 zw1_16 (Nat.le_of_ble_eq_true rfl) (Nat.le_of_ble_eq_true rfl) hl.1 dX9_copyTo_12 ?_
  clear hP hD hS
  try clear locs
  try clear H
  intro H locs hP hD hS
  replace hP : va_P D vwCl [(hs, .inr (9, [.ref ra1, .ref sa1, .int (nI sz1)])), (ra1, .inl (cs 0, 16008, .inl rf1)), (sa1, .inl (cs 0, 4096, .inl sf1)), (a, .inl (cs 0, 8, .inl (va_cpy rf1 f (v * 8) 0 8)))] H := hP
  replace hD : va_D A [(hs, .inr (9, [.ref ra1, .ref sa1, .int (nI sz1)])), (ra1, .inl (cs 0, 16008, .inl rf1)), (sa1, .inl (cs 0, 4096, .inl sf1)), (a, .inl (cs 0, 8, .inl (va_cpy rf1 f (v * 8) 0 8)))] := hD
  exact xretv C () trivial hP hD hS (Nat.le_of_ble_eq_true rfl) (Nat.le_of_ble_eq_true rfl) dX9_copyTo_15
