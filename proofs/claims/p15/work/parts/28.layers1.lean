theorem noneOr.nat {m : Nat} {r : Int32} (h : noneOr m r) (c : ¬ r = -1) : ∃ v, v < m ∧ r = nI v := h.resolve_left c
theorem nI_ne_m1 {v : Nat} (h : v < 2 ^ 31) : ¬ nI v = -1 := fun q => by
  have := congrArg Int32.toInt q
  rw [nI_toInt h] at this
  have e : (-1 : Int32).toInt = -1 := by decide
  omega

set_option maxHeartbeats 4000000 in
set_option maxRecDepth 100000 in
theorem c_X5_pass (l : Launch) (D : va_G) (cs : Nat → ClassId) (hly hr ha wk spa aga ona hs1 hs2 w1 w2 dn : Nat) (fu ver : Int32) (ra2 sa2 sz2 : Nat) (rf2 sf2 : Nat → Int32) (wf : Nat → Int32) (u2 : Nat → Int64) (x : Int64) (hsl2 : slP sz2 sf2) (hsz2 : sz2 ≤ 2000) : xMet l D cs yX5_pass cX5_pass 5 (some .boolean) ({ frames := 2, cells := 0, slots := 0, locals := 90 } : Room) [.ref hly, .long x] [(hly, .inr (5, [.ref hr, .ref ha, .ref wk, .ref hs1, .ref hs2, .ref w1, .ref w2, .int (nI dn), .int fu, .int ver, .ref spa, .ref aga, .ref ona])), (hs2, .inr (9, [.ref ra2, .ref sa2, .int (nI sz2)])), (ra2, .inl (cs 0, 16008, .inl rf2)), (sa2, .inl (cs 0, 4096, .inl sf2)), (wk, .inl (cs 0, 8, .inl wf)), (w2, .inl (cs 1, 2000, .inr (.inl u2)))] (xQi D (fun (r : Int32) (u : (Nat → Int32) × (Nat → Int32) × Nat × (Nat → Int64)) => match u with | (rz2, fz2, zz2, v2) => (r = nI 0 ∨ r = nI 1) ∧ slP zz2 fz2 ∧ zz2 ≤ 2000) (fun (u : (Nat → Int32) × (Nat → Int32) × Nat × (Nat → Int64)) => match u with | (rz2, fz2, zz2, v2) => [(hly, .inr (5, [.ref hr, .ref ha, .ref wk, .ref hs1, .ref hs2, .ref w1, .ref w2, .int (nI dn), .int fu, .int ver, .ref spa, .ref aga, .ref ona])), (hs2, .inr (9, [.ref ra2, .ref sa2, .int (nI zz2)])), (ra2, .inl (cs 0, 16008, .inl rz2)), (sa2, .inl (cs 0, 4096, .inl fz2)), (wk, .inl (cs 0, 8, .inl wf)), (w2, .inl (cs 1, 2000, .inr (.inl v2)))])) := by
  refine xMet.intro (by decide) (Nat.le_of_ble_eq_true rfl) ?_
  intro p e s m args below meth c A ls C hP hD hS hl
  have hx := C.1
  have hb := C.2.1
  have hz := C.2.2.2.2.1
  have hown := C.2.2.2.1
  have hA := C.2.2.2.2.2.2.2.2.2
  have hAO := C.2.2.2.2.2.2.2.2.1.2.2
  replace hl : lv_has ls 5 [(0, .ref hly), (1, .long x)] := hl
  obtain ⟨H, hH⟩ : ∃ H, H = s.heap := ⟨_, rfl⟩
  replace hP : va_P D vwCl [(hly, .inr (5, [.ref hr, .ref ha, .ref wk, .ref hs1, .ref hs2, .ref w1, .ref w2, .int (nI dn), .int fu, .int ver, .ref spa, .ref aga, .ref ona])), (hs2, .inr (9, [.ref ra2, .ref sa2, .int (nI sz2)])), (ra2, .inl (cs 0, 16008, .inl rf2)), (sa2, .inl (cs 0, 4096, .inl sf2)), (wk, .inl (cs 0, 8, .inl wf)), (w2, .inl (cs 1, 2000, .inr (.inl u2)))] H := by rw [hH]; exact hP
  replace hS : va_S A s.heap H [] := by rw [hH]; exact hS
  obtain ⟨locs, hlocs⟩ : ∃ z : List Loc, z = [] := ⟨_, rfl⟩
  rw [← hlocs] at hS
  suffices hW : W p l e ({ frames := 2, cells := 0, slots := 0, locals := 90 } : Room) s m args below meth c H locs 0 0 (MQ below ((xQi D (fun (r : Int32) (u : (Nat → Int32) × (Nat → Int32) × Nat × (Nat → Int64)) => match u with | (rz2, fz2, zz2, v2) => (r = nI 0 ∨ r = nI 1) ∧ slP zz2 fz2 ∧ zz2 ≤ 2000) (fun (u : (Nat → Int32) × (Nat → Int32) × Nat × (Nat → Int64)) => match u with | (rz2, fz2, zz2, v2) => [(hly, .inr (5, [.ref hr, .ref ha, .ref wk, .ref hs1, .ref hs2, .ref w1, .ref w2, .int (nI dn), .int fu, .int ver, .ref spa, .ref aga, .ref ona])), (hs2, .inr (9, [.ref ra2, .ref sa2, .int (nI zz2)])), (ra2, .inl (cs 0, 16008, .inl rz2)), (sa2, .inl (cs 0, 4096, .inl fz2)), (wk, .inl (cs 0, 8, .inl wf)), (w2, .inl (cs 1, 2000, .inr (.inl v2)))])) A) args s 0 0 A) (F0 m 0 ls []) by rw [hlocs, hH] at hW; exact hW
  clear hH hlocs
  refine lv_aload_n hx hb dX5_pass_0 rfl (lv_at hl 0 rfl) ?_
  refine xget C hP 0 rfl rfl zuX5 4 (by decide) zw2_45 rfl dX5_pass_1 ?_
  refine lv_aload_n hx hb dX5_pass_4 rfl (lv_at hl 0 rfl) ?_
  refine xget C hP 0 rfl rfl zuX5 2 (by decide) zw2_43 rfl dX5_pass_5 ?_
  refine xi (wr := [(hly, .inr (5, [.ref hr, .ref ha, .ref wk, .ref hs1, .ref hs2, .ref w1, .ref w2, .int (nI dn), .int fu, .int ver, .ref spa, .ref aga, .ref ona])), (w2, .inl (cs 1, 2000, .inr (.inl u2)))]) (xV (As := [.ref wk]) (rest := []) C (c_X9_slotOf l D cs hs2 ra2 sa2 rf2 sf2 sz2 wk wf hsl2 (by omega)) kX5_80 hP hD [1, 2, 3, 4] rfl (by decide) 0 rfl rfl rfl ⟨Nat.le_of_ble_eq_true rfl, Nat.le_of_ble_eq_true rfl⟩ rfl hl.1 rfl (Nat.le_of_ble_eq_true rfl) dX5_pass_8 ⟨Nat.le_of_ble_eq_true rfl, Nat.le_of_ble_eq_true rfl⟩) hP hD hS hA [1, 2, 3, 4] [0, 5] rfl rfl (by decide) (by decide) ?_
  clear hP hD hS
  try clear locs
  try clear H
  intro r_1 u_2 H locs hw_r_1 hP hD hS
  have hw_r_1 : ∃ j, j < 4096 ∧ r_1 = nI j := hw_r_1
  refine W.widen (k := 0) (n := 0) (Nat.le_of_ble_eq_true rfl) (Nat.le_of_ble_eq_true rfl) ?_
  replace hP : va_P D vwCl [(hly, .inr (5, [.ref hr, .ref ha, .ref wk, .ref hs1, .ref hs2, .ref w1, .ref w2, .int (nI dn), .int fu, .int ver, .ref spa, .ref aga, .ref ona])), (w2, .inl (cs 1, 2000, .inr (.inl u2))), (hs2, .inr (9, [.ref ra2, .ref sa2, .int (nI sz2)])), (ra2, .inl (cs 0, 16008, .inl rf2)), (sa2, .inl (cs 0, 4096, .inl sf2)), (wk, .inl (cs 0, 8, .inl wf))] H := hP
  replace hD : va_D A [(hly, .inr (5, [.ref hr, .ref ha, .ref wk, .ref hs1, .ref hs2, .ref w1, .ref w2, .int (nI dn), .int fu, .int ver, .ref spa, .ref aga, .ref ona])), (w2, .inl (cs 1, 2000, .inr (.inl u2))), (hs2, .inr (9, [.ref ra2, .ref sa2, .int (nI sz2)])), (ra2, .inl (cs 0, 16008, .inl rf2)), (sa2, .inl (cs 0, 4096, .inl sf2)), (wk, .inl (cs 0, 8, .inl wf))] := hD
  obtain ⟨t_3, h_t_3, e_t_3⟩ := hw_r_1
  refine lv_topi (nm_r (e' := nI t_3) e_t_3 ?_)
  refine lv_istore_n (lv' := [(3, .int (nI t_3)), (0, .ref hly), (1, .long x)]) hx hb dX5_pass_11 rfl hl (by decide) rfl ?_
  clear hl
  try clear ls
  intro ls hl
  refine lv_aload_n hx hb dX5_pass_12 rfl (lv_at hl 1 rfl) ?_
  refine xget C hP 0 rfl rfl zuX5 4 (by decide) zw2_45 rfl dX5_pass_13 ?_
  refine lv_iload_n hx hb dX5_pass_16 rfl (lv_at hl 0 rfl) ?_
  refine xi (wr := [(hly, .inr (5, [.ref hr, .ref ha, .ref wk, .ref hs1, .ref hs2, .ref w1, .ref w2, .int (nI dn), .int fu, .int ver, .ref spa, .ref aga, .ref ona])), (w2, .inl (cs 1, 2000, .inr (.inl u2))), (wk, .inl (cs 0, 8, .inl wf))]) (xV (As := [.int (nI t_3)]) (rest := []) C (c_X9_at l D cs hs2 ra2 sa2 rf2 sf2 sz2 t_3 hsl2 (by omega)) kX5_152 hP hD [2, 3, 4] rfl (by decide) 0 rfl rfl rfl ⟨Nat.le_of_ble_eq_true rfl, Nat.le_of_ble_eq_true rfl⟩ rfl hl.1 rfl (Nat.le_of_ble_eq_true rfl) dX5_pass_17 ⟨Nat.le_of_ble_eq_true rfl, Nat.le_of_ble_eq_true rfl⟩) hP hD hS hA [2, 3, 4] [0, 1, 5] rfl rfl (by decide) (by decide) ?_
  clear hP hD hS
  try clear locs
  try clear H
  intro r_4 u_5 H locs hw_r_4 hP hD hS
  have hw_r_4 : noneOr sz2 r_4 := hw_r_4
  refine W.widen (k := 0) (n := 0) (Nat.le_of_ble_eq_true rfl) (Nat.le_of_ble_eq_true rfl) ?_
  replace hP : va_P D vwCl [(hly, .inr (5, [.ref hr, .ref ha, .ref wk, .ref hs1, .ref hs2, .ref w1, .ref w2, .int (nI dn), .int fu, .int ver, .ref spa, .ref aga, .ref ona])), (w2, .inl (cs 1, 2000, .inr (.inl u2))), (wk, .inl (cs 0, 8, .inl wf)), (hs2, .inr (9, [.ref ra2, .ref sa2, .int (nI sz2)])), (ra2, .inl (cs 0, 16008, .inl rf2)), (sa2, .inl (cs 0, 4096, .inl sf2))] H := hP
  replace hD : va_D A [(hly, .inr (5, [.ref hr, .ref ha, .ref wk, .ref hs1, .ref hs2, .ref w1, .ref w2, .int (nI dn), .int fu, .int ver, .ref spa, .ref aga, .ref ona])), (w2, .inl (cs 1, 2000, .inr (.inl u2))), (wk, .inl (cs 0, 8, .inl wf)), (hs2, .inr (9, [.ref ra2, .ref sa2, .int (nI sz2)])), (ra2, .inl (cs 0, 16008, .inl rf2)), (sa2, .inl (cs 0, 4096, .inl sf2))] := hD
  refine lv_istore (lv' := [(4, .int r_4), (3, .int (nI t_3)), (0, .ref hly), (1, .long x)]) hx hb dX5_pass_20 hl (by decide) rfl ?_
  clear hl
  try clear ls
  intro ls hl
  refine lv_iload hx hb dX5_pass_22 (lv_at hl 0 rfl) ?_
  refine lv_iconst (v := (-1)) hx hb dX5_pass_24 (by decide) ?_
  refine lv_icmp_ne (tgt := 72) hx hb dX5_pass_25 (by decide) (fun c_6 => ?_) (fun c_6 => ?_)
  · -- 25 t
    obtain ⟨v_7, h_v_7, rfl⟩ := hw_r_4.nat c_6
    replace hP : va_P D vwCl [(hly, .inr (5, [.ref hr, .ref ha, .ref wk, .ref hs1, .ref hs2, .ref w1, .ref w2, .int (nI dn), .int fu, .int ver, .ref spa, .ref aga, .ref ona])), (w2, .inl (cs 1, 2000, .inr (.inl u2))), (wk, .inl (cs 0, 8, .inl wf)), (hs2, .inr (9, [.ref ra2, .ref sa2, .int (nI sz2)])), (ra2, .inl (cs 0, 16008, .inl rf2)), (sa2, .inl (cs 0, 4096, .inl sf2))] H := hP
    replace hD : va_D A [(hly, .inr (5, [.ref hr, .ref ha, .ref wk, .ref hs1, .ref hs2, .ref w1, .ref w2, .int (nI dn), .int fu, .int ver, .ref spa, .ref aga, .ref ona])), (w2, .inl (cs 1, 2000, .inr (.inl u2))), (wk, .inl (cs 0, 8, .inl wf)), (hs2, .inr (9, [.ref ra2, .ref sa2, .int (nI sz2)])), (ra2, .inl (cs 0, 16008, .inl rf2)), (sa2, .inl (cs 0, 4096, .inl sf2))] := hD
    refine lv_aload_n hx hb dX5_pass_72 rfl (lv_at hl 2 rfl) ?_
    refine xget C hP 0 rfl rfl zuX5 6 (by decide) zw2_47 rfl dX5_pass_73 ?_
    refine lv_iload hx hb dX5_pass_76 (lv_at hl 0 rfl) ?_
    refine lv_dup2_11 hx hb dX5_pass_78 rfl rfl ?_
    refine xlald C hP 1 rfl v_7 rfl (by omega) (by decide) dX5_pass_79 ?_
    refine lv_lload_n hx hb dX5_pass_80 rfl (lv_at hl 3 rfl) ?_
    refine lv_ladd hx hb dX5_pass_81 ?_
    refine xlast C hP hD hS 1 rfl v_7 rfl (by omega) (by decide) dX5_pass_82 ?_
    clear hP hD hS
    try clear locs
    try clear H
    intro H locs hP hD hS
    replace hP : va_P D vwCl [(hly, .inr (5, [.ref hr, .ref ha, .ref wk, .ref hs1, .ref hs2, .ref w1, .ref w2, .int (nI dn), .int fu, .int ver, .ref spa, .ref aga, .ref ona])), (w2, .inl (cs 1, 2000, .inr (.inl (vp_updL u2 v_7 ((u2 v_7) + x))))), (wk, .inl (cs 0, 8, .inl wf)), (hs2, .inr (9, [.ref ra2, .ref sa2, .int (nI sz2)])), (ra2, .inl (cs 0, 16008, .inl rf2)), (sa2, .inl (cs 0, 4096, .inl sf2))] H := hP
    replace hD : va_D A [(hly, .inr (5, [.ref hr, .ref ha, .ref wk, .ref hs1, .ref hs2, .ref w1, .ref w2, .int (nI dn), .int fu, .int ver, .ref spa, .ref aga, .ref ona])), (w2, .inl (cs 1, 2000, .inr (.inl (vp_updL u2 v_7 ((u2 v_7) + x))))), (wk, .inl (cs 0, 8, .inl wf)), (hs2, .inr (9, [.ref ra2, .ref sa2, .int (nI sz2)])), (ra2, .inl (cs 0, 16008, .inl rf2)), (sa2, .inl (cs 0, 4096, .inl sf2))] := hD
    refine lv_iconst (v := nI 1) hx hb dX5_pass_83 (by decide) ?_
    exact xreti C (⟨rf2, sf2, sz2, (vp_updL u2 v_7 ((u2 v_7) + x))⟩) (⟨by decide, hsl2, hsz2⟩) (xP_map hP [0, 3, 4, 5, 2, 1] rfl) (hD.sub [0, 3, 4, 5, 2, 1] (by decide) rfl) hS (Nat.le_of_ble_eq_true rfl) (Nat.le_of_ble_eq_true rfl) (by decide) dX5_pass_84
  · -- 25 f
    refine lv_aload_n hx hb dX5_pass_28 rfl (lv_at hl 2 rfl) ?_
    refine xget C hP 0 rfl rfl zuX5 4 (by decide) zw2_45 rfl dX5_pass_29 ?_
    refine xi (wr := [(hly, .inr (5, [.ref hr, .ref ha, .ref wk, .ref hs1, .ref hs2, .ref w1, .ref w2, .int (nI dn), .int fu, .int ver, .ref spa, .ref aga, .ref ona])), (w2, .inl (cs 1, 2000, .inr (.inl u2))), (wk, .inl (cs 0, 8, .inl wf))]) (xV (As := []) (rest := []) C (c_X9_isFull l D cs hs2 ra2 sa2 rf2 sf2 sz2 (by omega)) kX5_155 hP hD [3, 4, 5] rfl (by decide) 0 rfl rfl rfl ⟨Nat.le_of_ble_eq_true rfl, Nat.le_of_ble_eq_true rfl⟩ rfl hl.1 rfl (Nat.le_of_ble_eq_true rfl) dX5_pass_32 ⟨Nat.le_of_ble_eq_true rfl, Nat.le_of_ble_eq_true rfl⟩) hP hD hS hA [3, 4, 5] [0, 1, 2] rfl rfl (by decide) (by decide) ?_
    clear hP hD hS
    try clear locs
    try clear H
    intro r_8 u_9 H locs hw_r_8 hP hD hS
    have hw_r_8 : PQ (2000 ≤ sz2) r_8 (nI 1) (nI 0) := hw_r_8
    refine W.widen (k := 0) (n := 0) (Nat.le_of_ble_eq_true rfl) (Nat.le_of_ble_eq_true rfl) ?_
    replace hP : va_P D vwCl [(hly, .inr (5, [.ref hr, .ref ha, .ref wk, .ref hs1, .ref hs2, .ref w1, .ref w2, .int (nI dn), .int fu, .int ver, .ref spa, .ref aga, .ref ona])), (w2, .inl (cs 1, 2000, .inr (.inl u2))), (wk, .inl (cs 0, 8, .inl wf)), (hs2, .inr (9, [.ref ra2, .ref sa2, .int (nI sz2)])), (ra2, .inl (cs 0, 16008, .inl rf2)), (sa2, .inl (cs 0, 4096, .inl sf2))] H := hP
    replace hD : va_D A [(hly, .inr (5, [.ref hr, .ref ha, .ref wk, .ref hs1, .ref hs2, .ref w1, .ref w2, .int (nI dn), .int fu, .int ver, .ref spa, .ref aga, .ref ona])), (w2, .inl (cs 1, 2000, .inr (.inl u2))), (wk, .inl (cs 0, 8, .inl wf)), (hs2, .inr (9, [.ref ra2, .ref sa2, .int (nI sz2)])), (ra2, .inl (cs 0, 16008, .inl rf2)), (sa2, .inl (cs 0, 4096, .inl sf2))] := hD
    refine lv_if_eq (tgt := 42) hx hb dX5_pass_35 (by decide) (fun c_10 => ?_) (fun c_10 => ?_)
    · -- 35 t
      have hnf : ¬ 2000 ≤ sz2 := PQ.no hw_r_8 c_10 (by decide)
      refine lv_aload_n hx hb dX5_pass_42 rfl (lv_at hl 2 rfl) ?_
      refine xget C hP 0 rfl rfl zuX5 4 (by decide) zw2_45 rfl dX5_pass_43 ?_
      refine lv_iload_n hx hb dX5_pass_46 rfl (lv_at hl 1 rfl) ?_
      refine lv_aload_n hx hb dX5_pass_47 rfl (lv_at hl 2 rfl) ?_
      refine xget C hP 0 rfl rfl zuX5 2 (by decide) zw2_43 rfl dX5_pass_48 ?_
      refine xi (wr := [(hly, .inr (5, [.ref hr, .ref ha, .ref wk, .ref hs1, .ref hs2, .ref w1, .ref w2, .int (nI dn), .int fu, .int ver, .ref spa, .ref aga, .ref ona])), (w2, .inl (cs 1, 2000, .inr (.inl u2)))]) (xV (As := [.int (nI t_3), .ref wk]) (rest := []) C (c_X9_add l D cs hs2 ra2 sa2 rf2 sf2 sz2 wk wf t_3 hsl2 (by omega) (by assumption)) kX5_84 hP hD [3, 4, 5, 2] rfl (by decide) 0 rfl rfl rfl ⟨Nat.le_of_ble_eq_true rfl, Nat.le_of_ble_eq_true rfl⟩ rfl hl.1 rfl (Nat.le_of_ble_eq_true rfl) dX5_pass_51 ⟨Nat.le_of_ble_eq_true rfl, Nat.le_of_ble_eq_true rfl⟩) hP hD hS hA [3, 4, 5, 2] [0, 1] rfl rfl (by decide) (by decide) ?_
      clear hP hD hS
      try clear locs
      try clear H
      intro r_11 u_12 H locs hw_r_11 hP hD hS
      obtain ⟨rf2_13, sf2_14, sz2_15⟩ := u_12
      have hw_r_11 : slP sz2_15 sf2_14 ∧ sz2 ≤ sz2_15 ∧ sz2_15 ≤ 2001 ∧ ((2000 < sz2 ∧ r_11 = -1 ∧ sz2_15 = sz2) ∨ (sz2 ≤ 2000 ∧ r_11 = nI sz2 ∧ sz2_15 = sz2 + 1)) := hw_r_11
      refine W.widen (k := 0) (n := 0) (Nat.le_of_ble_eq_true rfl) (Nat.le_of_ble_eq_true rfl) ?_
      replace hP : va_P D vwCl [(hly, .inr (5, [.ref hr, .ref ha, .ref wk, .ref hs1, .ref hs2, .ref w1, .ref w2, .int (nI dn), .int fu, .int ver, .ref spa, .ref aga, .ref ona])), (w2, .inl (cs 1, 2000, .inr (.inl u2))), (hs2, .inr (9, [.ref ra2, .ref sa2, .int (nI sz2_15)])), (ra2, .inl (cs 0, 16008, .inl rf2_13)), (sa2, .inl (cs 0, 4096, .inl sf2_14)), (wk, .inl (cs 0, 8, .inl wf))] H := hP
      replace hD : va_D A [(hly, .inr (5, [.ref hr, .ref ha, .ref wk, .ref hs1, .ref hs2, .ref w1, .ref w2, .int (nI dn), .int fu, .int ver, .ref spa, .ref aga, .ref ona])), (w2, .inl (cs 1, 2000, .inr (.inl u2))), (hs2, .inr (9, [.ref ra2, .ref sa2, .int (nI sz2_15)])), (ra2, .inl (cs 0, 16008, .inl rf2_13)), (sa2, .inl (cs 0, 4096, .inl sf2_14)), (wk, .inl (cs 0, 8, .inl wf))] := hD
      obtain ⟨hA1, hA2, hA3, hA4⟩ := hw_r_11
      obtain ⟨-, rfl, hA5⟩ : sz2 ≤ 2000 ∧ r_11 = nI sz2 ∧ sz2_15 = sz2 + 1 := hA4.resolve_left (fun q => absurd q.1 (by omega))
      refine lv_istore (lv' := [(4, .int (nI sz2)), (3, .int (nI t_3)), (0, .ref hly), (1, .long x)]) hx hb dX5_pass_54 hl (by decide) rfl ?_
      clear hl
      try clear ls
      intro ls hl
      refine lv_iload hx hb dX5_pass_56 (lv_at hl 0 rfl) ?_
      refine lv_iconst (v := (-1)) hx hb dX5_pass_58 (by decide) ?_
      refine lv_icmp_ne (tgt := 64) hx hb dX5_pass_59 (by decide) (fun _ => ?_) (fun c => absurd c (nI_ne_m1 (by omega)))
      refine lv_aload_n hx hb dX5_pass_64 rfl (lv_at hl 2 rfl) ?_
      refine xget C hP 0 rfl rfl zuX5 6 (by decide) zw2_47 rfl dX5_pass_65 ?_
      refine lv_iload hx hb dX5_pass_68 (lv_at hl 0 rfl) ?_
      refine lv_lconst (v := 0) hx hb dX5_pass_70 (by decide) ?_
      refine xlast C hP hD hS 1 rfl sz2 rfl (by omega) (by decide) dX5_pass_71 ?_
      clear hP hD hS
      try clear locs
      try clear H
      intro H locs hP hD hS
      replace hP : va_P D vwCl [(hly, .inr (5, [.ref hr, .ref ha, .ref wk, .ref hs1, .ref hs2, .ref w1, .ref w2, .int (nI dn), .int fu, .int ver, .ref spa, .ref aga, .ref ona])), (w2, .inl (cs 1, 2000, .inr (.inl (vp_updL u2 sz2 0)))), (hs2, .inr (9, [.ref ra2, .ref sa2, .int (nI sz2_15)])), (ra2, .inl (cs 0, 16008, .inl rf2_13)), (sa2, .inl (cs 0, 4096, .inl sf2_14)), (wk, .inl (cs 0, 8, .inl wf))] H := hP
      replace hD : va_D A [(hly, .inr (5, [.ref hr, .ref ha, .ref wk, .ref hs1, .ref hs2, .ref w1, .ref w2, .int (nI dn), .int fu, .int ver, .ref spa, .ref aga, .ref ona])), (w2, .inl (cs 1, 2000, .inr (.inl (vp_updL u2 sz2 0)))), (hs2, .inr (9, [.ref ra2, .ref sa2, .int (nI sz2_15)])), (ra2, .inl (cs 0, 16008, .inl rf2_13)), (sa2, .inl (cs 0, 4096, .inl sf2_14)), (wk, .inl (cs 0, 8, .inl wf))] := hD
      refine lv_aload_n hx hb dX5_pass_72 rfl (lv_at hl 2 rfl) ?_
      refine xget C hP 0 rfl rfl zuX5 6 (by decide) zw2_47 rfl dX5_pass_73 ?_
      refine lv_iload hx hb dX5_pass_76 (lv_at hl 0 rfl) ?_
      refine lv_dup2_11 hx hb dX5_pass_78 rfl rfl ?_
      refine xlald C hP 1 rfl sz2 rfl (by omega) (by decide) dX5_pass_79 ?_
      refine lv_lload_n hx hb dX5_pass_80 rfl (lv_at hl 3 rfl) ?_
      refine lv_ladd hx hb dX5_pass_81 ?_
      refine xlast C hP hD hS 1 rfl sz2 rfl (by omega) (by decide) dX5_pass_82 ?_
      clear hP hD hS
      try clear locs
      try clear H
      intro H locs hP hD hS
      replace hP : va_P D vwCl [(hly, .inr (5, [.ref hr, .ref ha, .ref wk, .ref hs1, .ref hs2, .ref w1, .ref w2, .int (nI dn), .int fu, .int ver, .ref spa, .ref aga, .ref ona])), (w2, .inl (cs 1, 2000, .inr (.inl (vp_updL (vp_updL u2 sz2 0) sz2 (((vp_updL u2 sz2 0) sz2) + x))))), (hs2, .inr (9, [.ref ra2, .ref sa2, .int (nI sz2_15)])), (ra2, .inl (cs 0, 16008, .inl rf2_13)), (sa2, .inl (cs 0, 4096, .inl sf2_14)), (wk, .inl (cs 0, 8, .inl wf))] H := hP
      replace hD : va_D A [(hly, .inr (5, [.ref hr, .ref ha, .ref wk, .ref hs1, .ref hs2, .ref w1, .ref w2, .int (nI dn), .int fu, .int ver, .ref spa, .ref aga, .ref ona])), (w2, .inl (cs 1, 2000, .inr (.inl (vp_updL (vp_updL u2 sz2 0) sz2 (((vp_updL u2 sz2 0) sz2) + x))))), (hs2, .inr (9, [.ref ra2, .ref sa2, .int (nI sz2_15)])), (ra2, .inl (cs 0, 16008, .inl rf2_13)), (sa2, .inl (cs 0, 4096, .inl sf2_14)), (wk, .inl (cs 0, 8, .inl wf))] := hD
      refine lv_iconst (v := nI 1) hx hb dX5_pass_83 (by decide) ?_
      exact xreti C (⟨rf2_13, sf2_14, sz2_15, (vp_updL (vp_updL u2 sz2 0) sz2 (((vp_updL u2 sz2 0) sz2) + x))⟩) (⟨by decide, hA1, by omega⟩) (xP_map hP [0, 2, 3, 4, 5, 1] rfl) (hD.sub [0, 2, 3, 4, 5, 1] (by decide) rfl) hS (Nat.le_of_ble_eq_true rfl) (Nat.le_of_ble_eq_true rfl) (by decide) dX5_pass_84
    · -- 35 f
      refine lv_iconst (v := (-1)) hx hb dX5_pass_38 (by decide) ?_
      refine lv_goto (tgt := 54) hx hb dX5_pass_39 (by decide) ?_
      refine lv_istore (lv' := [(4, .int (-1)), (3, .int (nI t_3)), (0, .ref hly), (1, .long x)]) hx hb dX5_pass_54 hl (by decide) rfl ?_
      clear hl
      try clear ls
      intro ls hl
      refine lv_iload hx hb dX5_pass_56 (lv_at hl 0 rfl) ?_
      refine lv_iconst (v := (-1)) hx hb dX5_pass_58 (by decide) ?_
      refine lv_icmp_ne (tgt := 64) hx hb dX5_pass_59 (by decide) (fun c => absurd rfl c) (fun _ => ?_)
      refine lv_iconst (v := nI 0) hx hb dX5_pass_62 (by decide) ?_
      exact xreti C (⟨rf2, sf2, sz2, u2⟩) (⟨by decide, hsl2, hsz2⟩) (xP_map hP [0, 3, 4, 5, 2, 1] rfl) (hD.sub [0, 3, 4, 5, 2, 1] (by decide) rfl) hS (Nat.le_of_ble_eq_true rfl) (Nat.le_of_ble_eq_true rfl) (by decide) dX5_pass_63

set_option maxHeartbeats 4000000 in
set_option maxRecDepth 100000 in
theorem c_X5_spreadOne (l : Launch) (D : va_G) (cs : Nat → ClassId) (hly hr ha wk spa aga ona hs1 hs2 w1 w2 dn : Nat) (fu ver : Int32) (hg sm ca n k al be se : Nat) (ea pr z1 z2 z3 : Int32) (ra1 sa1 sz1 : Nat) (rf1 sf1 : Nat → Int32) (ra2 sa2 sz2 : Nat) (rf2 sf2 : Nat → Int32) (wf : Nat → Int32) (u1 u2 : Nat → Int64) (v i : Nat) (x y t9 : Int32) (hn : n ≤ 8) (hsl2 : slP sz2 sf2) (hsz2 : sz2 ≤ 2000) (hv : v < 2000) (hi : i < 8) : xMet l D cs yX5_spreadOne cX5_spreadOne 6 (some .boolean) ({ frames := 3, cells := 0, slots := 0, locals := 114 } : Room) [.ref hly, .int (nI v), .int (nI i), .int x, .int y, .int t9] [(hly, .inr (5, [.ref hr, .ref ha, .ref wk, .ref hs1, .ref hs2, .ref w1, .ref w2, .int (nI dn), .int fu, .int ver, .ref spa, .ref aga, .ref ona])), (ha, .inr (0, [.ref hr, .ref hg, .int z1, .int z2, .int z3])), (hr, .inr (7, [.int (nI n), .int (nI k), .int (nI al), .int (nI be), .int ea, .int pr, .ref sm, .int (nI se), .ref ca])), (hs1, .inr (9, [.ref ra1, .ref sa1, .int (nI sz1)])), (ra1, .inl (cs 0, 16008, .inl rf1)), (sa1, .inl (cs 0, 4096, .inl sf1)), (hs2, .inr (9, [.ref ra2, .ref sa2, .int (nI sz2)])), (ra2, .inl (cs 0, 16008, .inl rf2)), (sa2, .inl (cs 0, 4096, .inl sf2)), (wk, .inl (cs 0, 8, .inl wf)), (w1, .inl (cs 1, 2000, .inr (.inl u1))), (w2, .inl (cs 1, 2000, .inr (.inl u2)))] (xQi D (fun (r : Int32) (u : (Nat → Int32) × (Nat → Int32) × (Nat → Int32) × Nat × (Nat → Int64)) => match u with | (wz, rz2, fz2, zz2, v2) => (r = nI 0 ∨ r = nI 1) ∧ slP zz2 fz2 ∧ zz2 ≤ 2000) (fun (u : (Nat → Int32) × (Nat → Int32) × (Nat → Int32) × Nat × (Nat → Int64)) => match u with | (wz, rz2, fz2, zz2, v2) => [(hly, .inr (5, [.ref hr, .ref ha, .ref wk, .ref hs1, .ref hs2, .ref w1, .ref w2, .int (nI dn), .int fu, .int ver, .ref spa, .ref aga, .ref ona])), (ha, .inr (0, [.ref hr, .ref hg, .int z1, .int z2, .int z3])), (hr, .inr (7, [.int (nI n), .int (nI k), .int (nI al), .int (nI be), .int ea, .int pr, .ref sm, .int (nI se), .ref ca])), (hs1, .inr (9, [.ref ra1, .ref sa1, .int (nI sz1)])), (ra1, .inl (cs 0, 16008, .inl rf1)), (sa1, .inl (cs 0, 4096, .inl sf1)), (hs2, .inr (9, [.ref ra2, .ref sa2, .int (nI zz2)])), (ra2, .inl (cs 0, 16008, .inl rz2)), (sa2, .inl (cs 0, 4096, .inl fz2)), (wk, .inl (cs 0, 8, .inl wz)), (w1, .inl (cs 1, 2000, .inr (.inl u1))), (w2, .inl (cs 1, 2000, .inr (.inl v2)))])) := by
  refine xMet.intro (by decide) (Nat.le_of_ble_eq_true rfl) ?_
  intro p e s m args below meth c A ls C hP hD hS hl
  have hx := C.1
  have hb := C.2.1
  have hz := C.2.2.2.2.1
  have hown := C.2.2.2.1
  have hA := C.2.2.2.2.2.2.2.2.2
  have hAO := C.2.2.2.2.2.2.2.2.1.2.2
  replace hl : lv_has ls 6 [(0, .ref hly), (1, .int (nI v)), (2, .int (nI i)), (3, .int x), (4, .int y), (5, .int t9)] := hl
  obtain ⟨H, hH⟩ : ∃ H, H = s.heap := ⟨_, rfl⟩
  replace hP : va_P D vwCl [(hly, .inr (5, [.ref hr, .ref ha, .ref wk, .ref hs1, .ref hs2, .ref w1, .ref w2, .int (nI dn), .int fu, .int ver, .ref spa, .ref aga, .ref ona])), (ha, .inr (0, [.ref hr, .ref hg, .int z1, .int z2, .int z3])), (hr, .inr (7, [.int (nI n), .int (nI k), .int (nI al), .int (nI be), .int ea, .int pr, .ref sm, .int (nI se), .ref ca])), (hs1, .inr (9, [.ref ra1, .ref sa1, .int (nI sz1)])), (ra1, .inl (cs 0, 16008, .inl rf1)), (sa1, .inl (cs 0, 4096, .inl sf1)), (hs2, .inr (9, [.ref ra2, .ref sa2, .int (nI sz2)])), (ra2, .inl (cs 0, 16008, .inl rf2)), (sa2, .inl (cs 0, 4096, .inl sf2)), (wk, .inl (cs 0, 8, .inl wf)), (w1, .inl (cs 1, 2000, .inr (.inl u1))), (w2, .inl (cs 1, 2000, .inr (.inl u2)))] H := by rw [hH]; exact hP
  replace hS : va_S A s.heap H [] := by rw [hH]; exact hS
  obtain ⟨locs, hlocs⟩ : ∃ z : List Loc, z = [] := ⟨_, rfl⟩
  rw [← hlocs] at hS
  suffices hW : W p l e ({ frames := 3, cells := 0, slots := 0, locals := 114 } : Room) s m args below meth c H locs 0 0 (MQ below ((xQi D (fun (r : Int32) (u : (Nat → Int32) × (Nat → Int32) × (Nat → Int32) × Nat × (Nat → Int64)) => match u with | (wz, rz2, fz2, zz2, v2) => (r = nI 0 ∨ r = nI 1) ∧ slP zz2 fz2 ∧ zz2 ≤ 2000) (fun (u : (Nat → Int32) × (Nat → Int32) × (Nat → Int32) × Nat × (Nat → Int64)) => match u with | (wz, rz2, fz2, zz2, v2) => [(hly, .inr (5, [.ref hr, .ref ha, .ref wk, .ref hs1, .ref hs2, .ref w1, .ref w2, .int (nI dn), .int fu, .int ver, .ref spa, .ref aga, .ref ona])), (ha, .inr (0, [.ref hr, .ref hg, .int z1, .int z2, .int z3])), (hr, .inr (7, [.int (nI n), .int (nI k), .int (nI al), .int (nI be), .int ea, .int pr, .ref sm, .int (nI se), .ref ca])), (hs1, .inr (9, [.ref ra1, .ref sa1, .int (nI sz1)])), (ra1, .inl (cs 0, 16008, .inl rf1)), (sa1, .inl (cs 0, 4096, .inl sf1)), (hs2, .inr (9, [.ref ra2, .ref sa2, .int (nI zz2)])), (ra2, .inl (cs 0, 16008, .inl rz2)), (sa2, .inl (cs 0, 4096, .inl fz2)), (wk, .inl (cs 0, 8, .inl wz)), (w1, .inl (cs 1, 2000, .inr (.inl u1))), (w2, .inl (cs 1, 2000, .inr (.inl v2)))])) A) args s 0 0 A) (F0 m 0 ls []) by rw [hlocs, hH] at hW; exact hW
  clear hH hlocs
  refine lv_iload hx hb dX5_spreadOne_0 (lv_at hl 5 rfl) ?_
  refine lv_if_ne (tgt := 7) hx hb dX5_spreadOne_2 (by decide) (fun c_1 => ?_) (fun c_1 => ?_)
  · -- 2 t
    refine lv_aload_n hx hb dX5_spreadOne_7 rfl (lv_at hl 0 rfl) ?_
    refine xget C hP 0 rfl rfl zuX5 3 (by decide) zw2_44 rfl dX5_spreadOne_8 ?_
    refine lv_aload_n hx hb dX5_spreadOne_11 rfl (lv_at hl 0 rfl) ?_
    refine xget C hP 0 rfl rfl zuX5 2 (by decide) zw2_43 rfl dX5_spreadOne_12 ?_
    refine lv_iload_n hx hb dX5_spreadOne_15 rfl (lv_at hl 1 rfl) ?_
    refine xv (wr := [(hly, .inr (5, [.ref hr, .ref ha, .ref wk, .ref hs1, .ref hs2, .ref w1, .ref w2, .int (nI dn), .int fu, .int ver, .ref spa, .ref aga, .ref ona])), (ha, .inr (0, [.ref hr, .ref hg, .int z1, .int z2, .int z3])), (hr, .inr (7, [.int (nI n), .int (nI k), .int (nI al), .int (nI be), .int ea, .int pr, .ref sm, .int (nI se), .ref ca])), (hs2, .inr (9, [.ref ra2, .ref sa2, .int (nI sz2)])), (ra2, .inl (cs 0, 16008, .inl rf2)), (sa2, .inl (cs 0, 4096, .inl sf2)), (w1, .inl (cs 1, 2000, .inr (.inl u1))), (w2, .inl (cs 1, 2000, .inr (.inl u2)))]) (xV (As := [.ref wk, .int (nI v)]) (rest := []) C (c_X9_copyTo l D cs hs1 ra1 sa1 rf1 sf1 sz1 wk wf v (by omega)) kX5_109 hP hD [3, 4, 5, 9] rfl (by decide) 0 rfl rfl rfl ⟨Nat.le_of_ble_eq_true rfl, Nat.le_of_ble_eq_true rfl⟩ rfl hl.1 rfl (Nat.le_of_ble_eq_true rfl) dX5_spreadOne_16 ⟨Nat.le_of_ble_eq_true rfl, Nat.le_of_ble_eq_true rfl⟩) hP hD hS hA [3, 4, 5, 9] [0, 1, 2, 6, 7, 8, 10, 11] rfl rfl (by decide) (by decide) ?_
    clear hP hD hS
    try clear locs
    try clear H
    intro u_3 H locs hw_r_2 hP hD hS
    refine W.widen (k := 0) (n := 0) (Nat.le_of_ble_eq_true rfl) (Nat.le_of_ble_eq_true rfl) ?_
    replace hP : va_P D vwCl [(hly, .inr (5, [.ref hr, .ref ha, .ref wk, .ref hs1, .ref hs2, .ref w1, .ref w2, .int (nI dn), .int fu, .int ver, .ref spa, .ref aga, .ref ona])), (ha, .inr (0, [.ref hr, .ref hg, .int z1, .int z2, .int z3])), (hr, .inr (7, [.int (nI n), .int (nI k), .int (nI al), .int (nI be), .int ea, .int pr, .ref sm, .int (nI se), .ref ca])), (hs2, .inr (9, [.ref ra2, .ref sa2, .int (nI sz2)])), (ra2, .inl (cs 0, 16008, .inl rf2)), (sa2, .inl (cs 0, 4096, .inl sf2)), (w1, .inl (cs 1, 2000, .inr (.inl u1))), (w2, .inl (cs 1, 2000, .inr (.inl u2))), (hs1, .inr (9, [.ref ra1, .ref sa1, .int (nI sz1)])), (ra1, .inl (cs 0, 16008, .inl rf1)), (sa1, .inl (cs 0, 4096, .inl sf1)), (wk, .inl (cs 0, 8, .inl u_3))] H := hP
    replace hD : va_D A [(hly, .inr (5, [.ref hr, .ref ha, .ref wk, .ref hs1, .ref hs2, .ref w1, .ref w2, .int (nI dn), .int fu, .int ver, .ref spa, .ref aga, .ref ona])), (ha, .inr (0, [.ref hr, .ref hg, .int z1, .int z2, .int z3])), (hr, .inr (7, [.int (nI n), .int (nI k), .int (nI al), .int (nI be), .int ea, .int pr, .ref sm, .int (nI se), .ref ca])), (hs2, .inr (9, [.ref ra2, .ref sa2, .int (nI sz2)])), (ra2, .inl (cs 0, 16008, .inl rf2)), (sa2, .inl (cs 0, 4096, .inl sf2)), (w1, .inl (cs 1, 2000, .inr (.inl u1))), (w2, .inl (cs 1, 2000, .inr (.inl u2))), (hs1, .inr (9, [.ref ra1, .ref sa1, .int (nI sz1)])), (ra1, .inl (cs 0, 16008, .inl rf1)), (sa1, .inl (cs 0, 4096, .inl sf1)), (wk, .inl (cs 0, 8, .inl u_3))] := hD
    refine lv_aload_n hx hb dX5_spreadOne_19 rfl (lv_at hl 0 rfl) ?_
    refine xget C hP 0 rfl rfl zuX5 1 (by decide) zw2_42 rfl dX5_spreadOne_20 ?_
    refine lv_aload_n hx hb dX5_spreadOne_23 rfl (lv_at hl 0 rfl) ?_
    refine xget C hP 0 rfl rfl zuX5 2 (by decide) zw2_43 rfl dX5_spreadOne_24 ?_
    refine lv_iload_n hx hb dX5_spreadOne_27 rfl (lv_at hl 2 rfl) ?_
    refine lv_iload_n hx hb dX5_spreadOne_28 rfl (lv_at hl 3 rfl) ?_
    refine lv_iload hx hb dX5_spreadOne_29 (lv_at hl 4 rfl) ?_
    refine xv (wr := [(hly, .inr (5, [.ref hr, .ref ha, .ref wk, .ref hs1, .ref hs2, .ref w1, .ref w2, .int (nI dn), .int fu, .int ver, .ref spa, .ref aga, .ref ona])), (hs2, .inr (9, [.ref ra2, .ref sa2, .int (nI sz2)])), (ra2, .inl (cs 0, 16008, .inl rf2)), (sa2, .inl (cs 0, 4096, .inl sf2)), (w1, .inl (cs 1, 2000, .inr (.inl u1))), (w2, .inl (cs 1, 2000, .inr (.inl u2))), (hs1, .inr (9, [.ref ra1, .ref sa1, .int (nI sz1)])), (ra1, .inl (cs 0, 16008, .inl rf1)), (sa1, .inl (cs 0, 4096, .inl sf1))]) (xV (As := [.ref wk, .int (nI i), .int x, .int y]) (rest := []) C (c_X0_settle l D cs ha hg hr sm ca n k al be se ea pr z1 z2 z3 wk i u_3 x y hn hi) kX5_148 hP hD [1, 2, 11] rfl (by decide) 0 rfl rfl rfl ⟨Nat.le_of_ble_eq_true rfl, Nat.le_of_ble_eq_true rfl⟩ rfl hl.1 rfl (Nat.le_of_ble_eq_true rfl) dX5_spreadOne_31 ⟨Nat.le_of_ble_eq_true rfl, Nat.le_of_ble_eq_true rfl⟩) hP hD hS hA [1, 2, 11] [0, 3, 4, 5, 6, 7, 8, 9, 10] rfl rfl (by decide) (by decide) ?_
    clear hP hD hS
    try clear locs
    try clear H
    intro u_5 H locs hw_r_4 hP hD hS
    refine W.widen (k := 0) (n := 0) (Nat.le_of_ble_eq_true rfl) (Nat.le_of_ble_eq_true rfl) ?_
    replace hP : va_P D vwCl [(hly, .inr (5, [.ref hr, .ref ha, .ref wk, .ref hs1, .ref hs2, .ref w1, .ref w2, .int (nI dn), .int fu, .int ver, .ref spa, .ref aga, .ref ona])), (hs2, .inr (9, [.ref ra2, .ref sa2, .int (nI sz2)])), (ra2, .inl (cs 0, 16008, .inl rf2)), (sa2, .inl (cs 0, 4096, .inl sf2)), (w1, .inl (cs 1, 2000, .inr (.inl u1))), (w2, .inl (cs 1, 2000, .inr (.inl u2))), (hs1, .inr (9, [.ref ra1, .ref sa1, .int (nI sz1)])), (ra1, .inl (cs 0, 16008, .inl rf1)), (sa1, .inl (cs 0, 4096, .inl sf1)), (ha, .inr (0, [.ref hr, .ref hg, .int z1, .int z2, .int z3])), (hr, .inr (7, [.int (nI n), .int (nI k), .int (nI al), .int (nI be), .int ea, .int pr, .ref sm, .int (nI se), .ref ca])), (wk, .inl (cs 0, 8, .inl u_5))] H := hP
    replace hD : va_D A [(hly, .inr (5, [.ref hr, .ref ha, .ref wk, .ref hs1, .ref hs2, .ref w1, .ref w2, .int (nI dn), .int fu, .int ver, .ref spa, .ref aga, .ref ona])), (hs2, .inr (9, [.ref ra2, .ref sa2, .int (nI sz2)])), (ra2, .inl (cs 0, 16008, .inl rf2)), (sa2, .inl (cs 0, 4096, .inl sf2)), (w1, .inl (cs 1, 2000, .inr (.inl u1))), (w2, .inl (cs 1, 2000, .inr (.inl u2))), (hs1, .inr (9, [.ref ra1, .ref sa1, .int (nI sz1)])), (ra1, .inl (cs 0, 16008, .inl rf1)), (sa1, .inl (cs 0, 4096, .inl sf1)), (ha, .inr (0, [.ref hr, .ref hg, .int z1, .int z2, .int z3])), (hr, .inr (7, [.int (nI n), .int (nI k), .int (nI al), .int (nI be), .int ea, .int pr, .ref sm, .int (nI se), .ref ca])), (wk, .inl (cs 0, 8, .inl u_5))] := hD
    refine lv_aload_n hx hb dX5_spreadOne_34 rfl (lv_at hl 0 rfl) ?_
    refine lv_aload_n hx hb dX5_spreadOne_35 rfl (lv_at hl 0 rfl) ?_
    refine xget C hP 0 rfl rfl zuX5 5 (by decide) zw2_46 rfl dX5_spreadOne_36 ?_
    refine lv_iload_n hx hb dX5_spreadOne_39 rfl (lv_at hl 1 rfl) ?_
    refine xlald C hP 4 rfl v rfl (by omega) (by decide) dX5_spreadOne_40 ?_
    refine lv_iload hx hb dX5_spreadOne_41 (lv_at hl 5 rfl) ?_
    refine lv_i2l hx hb dX5_spreadOne_43 rfl ?_
    refine lv_lmul hx hb dX5_spreadOne_44 ?_
    refine xi (wr := [(w1, .inl (cs 1, 2000, .inr (.inl u1))), (hs1, .inr (9, [.ref ra1, .ref sa1, .int (nI sz1)])), (ra1, .inl (cs 0, 16008, .inl rf1)), (sa1, .inl (cs 0, 4096, .inl sf1)), (ha, .inr (0, [.ref hr, .ref hg, .int z1, .int z2, .int z3])), (hr, .inr (7, [.int (nI n), .int (nI k), .int (nI al), .int (nI be), .int ea, .int pr, .ref sm, .int (nI se), .ref ca]))]) (xV (As := [.long ((u1 v) * t9.toInt64)]) (rest := []) C (c_X5_pass l D cs hly hr ha wk spa aga ona hs1 hs2 w1 w2 dn fu ver ra2 sa2 sz2 rf2 sf2 u_5 u2 ((u1 v) * t9.toInt64) hsl2 hsz2) kX5_116 hP hD [0, 1, 2, 3, 11, 5] rfl (by decide) 0 rfl rfl rfl ⟨Nat.le_of_ble_eq_true rfl, Nat.le_of_ble_eq_true rfl⟩ rfl hl.1 rfl (Nat.le_of_ble_eq_true rfl) dX5_spreadOne_45 ⟨Nat.le_of_ble_eq_true rfl, Nat.le_of_ble_eq_true rfl⟩) hP hD hS hA [0, 1, 2, 3, 11, 5] [4, 6, 7, 8, 9, 10] rfl rfl (by decide) (by decide) ?_
    clear hP hD hS
    try clear locs
    try clear H
    intro r_6 u_7 H locs hw_r_6 hP hD hS
    obtain ⟨rz2_8, fz2_9, zz2_10, v2_11⟩ := u_7
    have hw_r_6 : (r_6 = nI 0 ∨ r_6 = nI 1) ∧ slP zz2_10 fz2_9 ∧ zz2_10 ≤ 2000 := hw_r_6
    refine W.widen (k := 0) (n := 0) (Nat.le_of_ble_eq_true rfl) (Nat.le_of_ble_eq_true rfl) ?_
    replace hP : va_P D vwCl [(w1, .inl (cs 1, 2000, .inr (.inl u1))), (hs1, .inr (9, [.ref ra1, .ref sa1, .int (nI sz1)])), (ra1, .inl (cs 0, 16008, .inl rf1)), (sa1, .inl (cs 0, 4096, .inl sf1)), (ha, .inr (0, [.ref hr, .ref hg, .int z1, .int z2, .int z3])), (hr, .inr (7, [.int (nI n), .int (nI k), .int (nI al), .int (nI be), .int ea, .int pr, .ref sm, .int (nI se), .ref ca])), (hly, .inr (5, [.ref hr, .ref ha, .ref wk, .ref hs1, .ref hs2, .ref w1, .ref w2, .int (nI dn), .int fu, .int ver, .ref spa, .ref aga, .ref ona])), (hs2, .inr (9, [.ref ra2, .ref sa2, .int (nI zz2_10)])), (ra2, .inl (cs 0, 16008, .inl rz2_8)), (sa2, .inl (cs 0, 4096, .inl fz2_9)), (wk, .inl (cs 0, 8, .inl u_5)), (w2, .inl (cs 1, 2000, .inr (.inl v2_11)))] H := hP
    replace hD : va_D A [(w1, .inl (cs 1, 2000, .inr (.inl u1))), (hs1, .inr (9, [.ref ra1, .ref sa1, .int (nI sz1)])), (ra1, .inl (cs 0, 16008, .inl rf1)), (sa1, .inl (cs 0, 4096, .inl sf1)), (ha, .inr (0, [.ref hr, .ref hg, .int z1, .int z2, .int z3])), (hr, .inr (7, [.int (nI n), .int (nI k), .int (nI al), .int (nI be), .int ea, .int pr, .ref sm, .int (nI se), .ref ca])), (hly, .inr (5, [.ref hr, .ref ha, .ref wk, .ref hs1, .ref hs2, .ref w1, .ref w2, .int (nI dn), .int fu, .int ver, .ref spa, .ref aga, .ref ona])), (hs2, .inr (9, [.ref ra2, .ref sa2, .int (nI zz2_10)])), (ra2, .inl (cs 0, 16008, .inl rz2_8)), (sa2, .inl (cs 0, 4096, .inl fz2_9)), (wk, .inl (cs 0, 8, .inl u_5)), (w2, .inl (cs 1, 2000, .inr (.inl v2_11)))] := hD
    exact xreti C (⟨u_5, rz2_8, fz2_9, zz2_10, v2_11⟩) hw_r_6 (xP_map hP [6, 4, 5, 1, 2, 3, 7, 8, 9, 10, 0, 11] rfl) (hD.sub [6, 4, 5, 1, 2, 3, 7, 8, 9, 10, 0, 11] (by decide) rfl) hS (Nat.le_of_ble_eq_true rfl) (Nat.le_of_ble_eq_true rfl) (nb_of hw_r_6.1) dX5_spreadOne_48
  · -- 2 f
    refine lv_iconst (v := nI 1) hx hb dX5_spreadOne_5 (by decide) ?_
    exact xreti C (⟨wf, rf2, sf2, sz2, u2⟩) (⟨by decide, hsl2, hsz2⟩) hP hD hS (Nat.le_of_ble_eq_true rfl) (Nat.le_of_ble_eq_true rfl) (by decide) dX5_spreadOne_6

set_option maxHeartbeats 4000000 in
set_option maxRecDepth 100000 in
theorem c_X5_spread (l : Launch) (D : va_G) (cs : Nat → ClassId) (hly hr ha wk spa aga ona hs1 hs2 w1 w2 dn : Nat) (fu ver : Int32) (hg sm ca n k al be se : Nat) (ea pr z1 z2 z3 : Int32) (ra1 sa1 sz1 : Nat) (rf1 sf1 : Nat → Int32) (ra2 sa2 sz2 : Nat) (rf2 sf2 : Nat → Int32) (wf : Nat → Int32) (u1 u2 : Nat → Int64) (nd kd lk vw q : Nat) (kf lf cf sg : Nat → Int32) (fsm : Nat → Option Nat) (v i : Nat) (hn : n ≤ 8) (hsl2 : slP sz2 sf2) (hsz2 : sz2 ≤ 2000) (hs35 : se ≤ 35) (hv : v < 2000) (hi : i < 8) (hq : fsm i = some q) : xMet l D cs yX5_spread cX5_spread 5 (some .boolean) ({ frames := 4, cells := 0, slots := 0, locals := 139 } : Room) [.ref hly, .int (nI v), .int (nI i)] [(hly, .inr (5, [.ref hr, .ref ha, .ref wk, .ref hs1, .ref hs2, .ref w1, .ref w2, .int (nI dn), .int fu, .int ver, .ref spa, .ref aga, .ref ona])), (ha, .inr (0, [.ref hr, .ref hg, .int z1, .int z2, .int z3])), (hr, .inr (7, [.int (nI n), .int (nI k), .int (nI al), .int (nI be), .int ea, .int pr, .ref sm, .int (nI se), .ref ca])), (hs1, .inr (9, [.ref ra1, .ref sa1, .int (nI sz1)])), (ra1, .inl (cs 0, 16008, .inl rf1)), (sa1, .inl (cs 0, 4096, .inl sf1)), (hs2, .inr (9, [.ref ra2, .ref sa2, .int (nI sz2)])), (ra2, .inl (cs 0, 16008, .inl rf2)), (sa2, .inl (cs 0, 4096, .inl sf2)), (wk, .inl (cs 0, 8, .inl wf)), (w1, .inl (cs 1, 2000, .inr (.inl u1))), (w2, .inl (cs 1, 2000, .inr (.inl u2))), (hg, .inr (4, [.ref nd, .ref kd, .ref lk, .ref vw])), (kd, .inl (cs 0, 8, .inl kf)), (lk, .inl (cs 0, 8, .inl lf)), (ca, .inl (cs 0, 8, .inl cf)), (sm, .inl (cs 5, 8, .inr (.inr (.inr (.inr fsm))))), (q, .inl (cs 0, 35, .inl sg))] (xQi D (fun (r : Int32) (u : (Nat → Int32) × (Nat → Int32) × (Nat → Int32) × Nat × (Nat → Int64) × Int32 × Int32 × Int32) => match u with | (wz, rz2, fz2, zz2, v2, y1, y2, y3) => (r = nI 0 ∨ r = nI 1) ∧ slP zz2 fz2 ∧ zz2 ≤ 2000) (fun (u : (Nat → Int32) × (Nat → Int32) × (Nat → Int32) × Nat × (Nat → Int64) × Int32 × Int32 × Int32) => match u with | (wz, rz2, fz2, zz2, v2, y1, y2, y3) => [(hly, .inr (5, [.ref hr, .ref ha, .ref wk, .ref hs1, .ref hs2, .ref w1, .ref w2, .int (nI dn), .int fu, .int ver, .ref spa, .ref aga, .ref ona])), (ha, .inr (0, [.ref hr, .ref hg, .int y1, .int y2, .int y3])), (hr, .inr (7, [.int (nI n), .int (nI k), .int (nI al), .int (nI be), .int ea, .int pr, .ref sm, .int (nI se), .ref ca])), (hs1, .inr (9, [.ref ra1, .ref sa1, .int (nI sz1)])), (ra1, .inl (cs 0, 16008, .inl rf1)), (sa1, .inl (cs 0, 4096, .inl sf1)), (hs2, .inr (9, [.ref ra2, .ref sa2, .int (nI zz2)])), (ra2, .inl (cs 0, 16008, .inl rz2)), (sa2, .inl (cs 0, 4096, .inl fz2)), (wk, .inl (cs 0, 8, .inl wz)), (w1, .inl (cs 1, 2000, .inr (.inl u1))), (w2, .inl (cs 1, 2000, .inr (.inl v2))), (hg, .inr (4, [.ref nd, .ref kd, .ref lk, .ref vw])), (kd, .inl (cs 0, 8, .inl kf)), (lk, .inl (cs 0, 8, .inl lf)), (ca, .inl (cs 0, 8, .inl cf)), (sm, .inl (cs 5, 8, .inr (.inr (.inr (.inr fsm))))), (q, .inl (cs 0, 35, .inl sg))])) := by
  refine xMet.intro (by decide) (Nat.le_of_ble_eq_true rfl) ?_
  intro p e s m args below meth c A ls C hP hD hS hl
  have hx := C.1
  have hb := C.2.1
  have hz := C.2.2.2.2.1
  have hown := C.2.2.2.1
  have hA := C.2.2.2.2.2.2.2.2.2
  have hAO := C.2.2.2.2.2.2.2.2.1.2.2
  replace hl : lv_has ls 5 [(0, .ref hly), (1, .int (nI v)), (2, .int (nI i))] := hl
  obtain ⟨H, hH⟩ : ∃ H, H = s.heap := ⟨_, rfl⟩
  replace hP : va_P D vwCl [(hly, .inr (5, [.ref hr, .ref ha, .ref wk, .ref hs1, .ref hs2, .ref w1, .ref w2, .int (nI dn), .int fu, .int ver, .ref spa, .ref aga, .ref ona])), (ha, .inr (0, [.ref hr, .ref hg, .int z1, .int z2, .int z3])), (hr, .inr (7, [.int (nI n), .int (nI k), .int (nI al), .int (nI be), .int ea, .int pr, .ref sm, .int (nI se), .ref ca])), (hs1, .inr (9, [.ref ra1, .ref sa1, .int (nI sz1)])), (ra1, .inl (cs 0, 16008, .inl rf1)), (sa1, .inl (cs 0, 4096, .inl sf1)), (hs2, .inr (9, [.ref ra2, .ref sa2, .int (nI sz2)])), (ra2, .inl (cs 0, 16008, .inl rf2)), (sa2, .inl (cs 0, 4096, .inl sf2)), (wk, .inl (cs 0, 8, .inl wf)), (w1, .inl (cs 1, 2000, .inr (.inl u1))), (w2, .inl (cs 1, 2000, .inr (.inl u2))), (hg, .inr (4, [.ref nd, .ref kd, .ref lk, .ref vw])), (kd, .inl (cs 0, 8, .inl kf)), (lk, .inl (cs 0, 8, .inl lf)), (ca, .inl (cs 0, 8, .inl cf)), (sm, .inl (cs 5, 8, .inr (.inr (.inr (.inr fsm))))), (q, .inl (cs 0, 35, .inl sg))] H := by rw [hH]; exact hP
  replace hS : va_S A s.heap H [] := by rw [hH]; exact hS
  obtain ⟨locs, hlocs⟩ : ∃ z : List Loc, z = [] := ⟨_, rfl⟩
  rw [← hlocs] at hS
  suffices hW : W p l e ({ frames := 4, cells := 0, slots := 0, locals := 139 } : Room) s m args below meth c H locs 0 0 (MQ below ((xQi D (fun (r : Int32) (u : (Nat → Int32) × (Nat → Int32) × (Nat → Int32) × Nat × (Nat → Int64) × Int32 × Int32 × Int32) => match u with | (wz, rz2, fz2, zz2, v2, y1, y2, y3) => (r = nI 0 ∨ r = nI 1) ∧ slP zz2 fz2 ∧ zz2 ≤ 2000) (fun (u : (Nat → Int32) × (Nat → Int32) × (Nat → Int32) × Nat × (Nat → Int64) × Int32 × Int32 × Int32) => match u with | (wz, rz2, fz2, zz2, v2, y1, y2, y3) => [(hly, .inr (5, [.ref hr, .ref ha, .ref wk, .ref hs1, .ref hs2, .ref w1, .ref w2, .int (nI dn), .int fu, .int ver, .ref spa, .ref aga, .ref ona])), (ha, .inr (0, [.ref hr, .ref hg, .int y1, .int y2, .int y3])), (hr, .inr (7, [.int (nI n), .int (nI k), .int (nI al), .int (nI be), .int ea, .int pr, .ref sm, .int (nI se), .ref ca])), (hs1, .inr (9, [.ref ra1, .ref sa1, .int (nI sz1)])), (ra1, .inl (cs 0, 16008, .inl rf1)), (sa1, .inl (cs 0, 4096, .inl sf1)), (hs2, .inr (9, [.ref ra2, .ref sa2, .int (nI zz2)])), (ra2, .inl (cs 0, 16008, .inl rz2)), (sa2, .inl (cs 0, 4096, .inl fz2)), (wk, .inl (cs 0, 8, .inl wz)), (w1, .inl (cs 1, 2000, .inr (.inl u1))), (w2, .inl (cs 1, 2000, .inr (.inl v2))), (hg, .inr (4, [.ref nd, .ref kd, .ref lk, .ref vw])), (kd, .inl (cs 0, 8, .inl kf)), (lk, .inl (cs 0, 8, .inl lf)), (ca, .inl (cs 0, 8, .inl cf)), (sm, .inl (cs 5, 8, .inr (.inr (.inr (.inr fsm))))), (q, .inl (cs 0, 35, .inl sg))])) A) args s 0 0 A) (F0 m 0 ls []) by rw [hlocs, hH] at hW; exact hW
  clear hH hlocs
  refine lv_aload_n hx hb dX5_spread_0 rfl (lv_at hl 0 rfl) ?_
  refine xget C hP 0 rfl rfl zuX5 1 (by decide) zw2_42 rfl dX5_spread_1 ?_
  refine lv_aload_n hx hb dX5_spread_4 rfl (lv_at hl 0 rfl) ?_
  refine xget C hP 0 rfl rfl zuX5 3 (by decide) zw2_44 rfl dX5_spread_5 ?_
  refine xget C hP 3 rfl rfl zuX9 0 (by decide) zw3_171 rfl dX5_spread_8 ?_
  refine lv_iload_n hx hb dX5_spread_11 rfl (lv_at hl 1 rfl) ?_
  refine lv_bipush (v := nI 8) hx hb dX5_spread_12 (by decide) ?_
  refine lv_imul hx hb dX5_spread_14 ?_
  refine lv_topi (nm_r (e' := nI (v * 8)) (pk_mul _ _) ?_)
  refine lv_iload_n hx hb dX5_spread_15 rfl (lv_at hl 2 rfl) ?_
  refine xi (wr := [(hly, .inr (5, [.ref hr, .ref ha, .ref wk, .ref hs1, .ref hs2, .ref w1, .ref w2, .int (nI dn), .int fu, .int ver, .ref spa, .ref aga, .ref ona])), (hs1, .inr (9, [.ref ra1, .ref sa1, .int (nI sz1)])), (sa1, .inl (cs 0, 4096, .inl sf1)), (hs2, .inr (9, [.ref ra2, .ref sa2, .int (nI sz2)])), (ra2, .inl (cs 0, 16008, .inl rf2)), (sa2, .inl (cs 0, 4096, .inl sf2)), (wk, .inl (cs 0, 8, .inl wf)), (w1, .inl (cs 1, 2000, .inr (.inl u1))), (w2, .inl (cs 1, 2000, .inr (.inl u2))), (ca, .inl (cs 0, 8, .inl cf)), (sm, .inl (cs 5, 8, .inr (.inr (.inr (.inr fsm))))), (q, .inl (cs 0, 35, .inl sg))]) (xV (As := [.ref ra1, .int (nI (v * 8)), .int (nI i)]) (rest := []) C (c_X0_listen l D cs ha hg hr sm ca n k al be se ea pr z1 z2 z3 nd kd lk vw kf lf ra1 16008 (v * 8) i rf1 hn (by omega) (by omega) (by decide)) kX5_103 hP hD [1, 2, 12, 13, 14, 4] rfl (by decide) 0 rfl rfl rfl ⟨Nat.le_of_ble_eq_true rfl, Nat.le_of_ble_eq_true rfl⟩ rfl hl.1 rfl (Nat.le_of_ble_eq_true rfl) dX5_spread_16 ⟨Nat.le_of_ble_eq_true rfl, Nat.le_of_ble_eq_true rfl⟩) hP hD hS hA [1, 2, 12, 13, 14, 4] [0, 3, 5, 6, 7, 8, 9, 10, 11, 15, 16, 17] rfl rfl (by decide) (by decide) ?_
  clear hP hD hS
  try clear locs
  try clear H
  intro r_1 u_2 H locs hw_r_1 hP hD hS
  obtain ⟨y1_3, y2_4, y3_5⟩ := u_2
  refine W.widen (k := 0) (n := 0) (Nat.le_of_ble_eq_true rfl) (Nat.le_of_ble_eq_true rfl) ?_
  replace hP : va_P D vwCl [(hly, .inr (5, [.ref hr, .ref ha, .ref wk, .ref hs1, .ref hs2, .ref w1, .ref w2, .int (nI dn), .int fu, .int ver, .ref spa, .ref aga, .ref ona])), (hs1, .inr (9, [.ref ra1, .ref sa1, .int (nI sz1)])), (sa1, .inl (cs 0, 4096, .inl sf1)), (hs2, .inr (9, [.ref ra2, .ref sa2, .int (nI sz2)])), (ra2, .inl (cs 0, 16008, .inl rf2)), (sa2, .inl (cs 0, 4096, .inl sf2)), (wk, .inl (cs 0, 8, .inl wf)), (w1, .inl (cs 1, 2000, .inr (.inl u1))), (w2, .inl (cs 1, 2000, .inr (.inl u2))), (ca, .inl (cs 0, 8, .inl cf)), (sm, .inl (cs 5, 8, .inr (.inr (.inr (.inr fsm))))), (q, .inl (cs 0, 35, .inl sg)), (ha, .inr (0, [.ref hr, .ref hg, .int y1_3, .int y2_4, .int y3_5])), (hr, .inr (7, [.int (nI n), .int (nI k), .int (nI al), .int (nI be), .int ea, .int pr, .ref sm, .int (nI se), .ref ca])), (hg, .inr (4, [.ref nd, .ref kd, .ref lk, .ref vw])), (kd, .inl (cs 0, 8, .inl kf)), (lk, .inl (cs 0, 8, .inl lf)), (ra1, .inl (cs 0, 16008, .inl rf1))] H := hP
  replace hD : va_D A [(hly, .inr (5, [.ref hr, .ref ha, .ref wk, .ref hs1, .ref hs2, .ref w1, .ref w2, .int (nI dn), .int fu, .int ver, .ref spa, .ref aga, .ref ona])), (hs1, .inr (9, [.ref ra1, .ref sa1, .int (nI sz1)])), (sa1, .inl (cs 0, 4096, .inl sf1)), (hs2, .inr (9, [.ref ra2, .ref sa2, .int (nI sz2)])), (ra2, .inl (cs 0, 16008, .inl rf2)), (sa2, .inl (cs 0, 4096, .inl sf2)), (wk, .inl (cs 0, 8, .inl wf)), (w1, .inl (cs 1, 2000, .inr (.inl u1))), (w2, .inl (cs 1, 2000, .inr (.inl u2))), (ca, .inl (cs 0, 8, .inl cf)), (sm, .inl (cs 5, 8, .inr (.inr (.inr (.inr fsm))))), (q, .inl (cs 0, 35, .inl sg)), (ha, .inr (0, [.ref hr, .ref hg, .int y1_3, .int y2_4, .int y3_5])), (hr, .inr (7, [.int (nI n), .int (nI k), .int (nI al), .int (nI be), .int ea, .int pr, .ref sm, .int (nI se), .ref ca])), (hg, .inr (4, [.ref nd, .ref kd, .ref lk, .ref vw])), (kd, .inl (cs 0, 8, .inl kf)), (lk, .inl (cs 0, 8, .inl lf)), (ra1, .inl (cs 0, 16008, .inl rf1))] := hD
  refine lv_if_ne (tgt := 54) hx hb dX5_spread_19 (by decide) (fun c_6 => ?_) (fun c_6 => ?_)
  · -- 19 t
    refine lv_aload_n hx hb dX5_spread_54 rfl (lv_at hl 0 rfl) ?_
    refine xget C hP 0 rfl rfl zuX5 1 (by decide) zw2_42 rfl dX5_spread_55 ?_
    refine xget C hP 12 rfl rfl zuX0 4 (by decide) zw2_5 rfl dX5_spread_58 ?_
    refine lv_if_ne (tgt := 155) hx hb dX5_spread_61 (by decide) (fun c_7 => ?_) (fun c_7 => ?_)
    · -- 61 t
      refine lv_iconst (v := nI 0) hx hb dX5_spread_155 (by decide) ?_
      refine lv_istore_n (lv' := [(3, .int (nI 0)), (0, .ref hly), (1, .int (nI v)), (2, .int (nI i))]) hx hb dX5_spread_156 rfl hl (by decide) rfl ?_
      clear hl
      try clear ls
      intro ls hl
      have loop_8 : ∀ (n_loop_8 : Nat) (o : Nat) (g1 : Nat → Int32) (g2 : Nat → Int32) (g3 : Nat → Int32) (g4 : Nat → Int64) (gz : Nat), (o ≤ se) → (slP gz g3) → (gz ≤ 2000) → se - o < n_loop_8 → ∀ (H : Heap) (locs : List Loc) (ls : Array Slot), va_P D vwCl [(hly, .inr (5, [.ref hr, .ref ha, .ref wk, .ref hs1, .ref hs2, .ref w1, .ref w2, .int (nI dn), .int fu, .int ver, .ref spa, .ref aga, .ref ona])), (hs1, .inr (9, [.ref ra1, .ref sa1, .int (nI sz1)])), (sa1, .inl (cs 0, 4096, .inl sf1)), (hs2, .inr (9, [.ref ra2, .ref sa2, .int (nI gz)])), (ra2, .inl (cs 0, 16008, .inl g2)), (sa2, .inl (cs 0, 4096, .inl g3)), (wk, .inl (cs 0, 8, .inl g1)), (w1, .inl (cs 1, 2000, .inr (.inl u1))), (w2, .inl (cs 1, 2000, .inr (.inl g4))), (ca, .inl (cs 0, 8, .inl cf)), (sm, .inl (cs 5, 8, .inr (.inr (.inr (.inr fsm))))), (q, .inl (cs 0, 35, .inl sg)), (ha, .inr (0, [.ref hr, .ref hg, .int y1_3, .int y2_4, .int y3_5])), (hr, .inr (7, [.int (nI n), .int (nI k), .int (nI al), .int (nI be), .int ea, .int pr, .ref sm, .int (nI se), .ref ca])), (hg, .inr (4, [.ref nd, .ref kd, .ref lk, .ref vw])), (kd, .inl (cs 0, 8, .inl kf)), (lk, .inl (cs 0, 8, .inl lf)), (ra1, .inl (cs 0, 16008, .inl rf1))] H → va_D A [(hly, .inr (5, [.ref hr, .ref ha, .ref wk, .ref hs1, .ref hs2, .ref w1, .ref w2, .int (nI dn), .int fu, .int ver, .ref spa, .ref aga, .ref ona])), (hs1, .inr (9, [.ref ra1, .ref sa1, .int (nI sz1)])), (sa1, .inl (cs 0, 4096, .inl sf1)), (hs2, .inr (9, [.ref ra2, .ref sa2, .int (nI gz)])), (ra2, .inl (cs 0, 16008, .inl g2)), (sa2, .inl (cs 0, 4096, .inl g3)), (wk, .inl (cs 0, 8, .inl g1)), (w1, .inl (cs 1, 2000, .inr (.inl u1))), (w2, .inl (cs 1, 2000, .inr (.inl g4))), (ca, .inl (cs 0, 8, .inl cf)), (sm, .inl (cs 5, 8, .inr (.inr (.inr (.inr fsm))))), (q, .inl (cs 0, 35, .inl sg)), (ha, .inr (0, [.ref hr, .ref hg, .int y1_3, .int y2_4, .int y3_5])), (hr, .inr (7, [.int (nI n), .int (nI k), .int (nI al), .int (nI be), .int ea, .int pr, .ref sm, .int (nI se), .ref ca])), (hg, .inr (4, [.ref nd, .ref kd, .ref lk, .ref vw])), (kd, .inl (cs 0, 8, .inl kf)), (lk, .inl (cs 0, 8, .inl lf)), (ra1, .inl (cs 0, 16008, .inl rf1))] → va_S A s.heap H locs → lv_has ls 5 [(3, .int (nI o)), (0, .ref hly), (1, .int (nI v)), (2, .int (nI i))] → W p l e ({ frames := 4, cells := 0, slots := 0, locals := 139 } : Room) s m args below meth c H locs 0 0 (MQ below ((xQi D (fun (r : Int32) (u : (Nat → Int32) × (Nat → Int32) × (Nat → Int32) × Nat × (Nat → Int64) × Int32 × Int32 × Int32) => match u with | (wz, rz2, fz2, zz2, v2, y1, y2, y3) => (r = nI 0 ∨ r = nI 1) ∧ slP zz2 fz2 ∧ zz2 ≤ 2000) (fun (u : (Nat → Int32) × (Nat → Int32) × (Nat → Int32) × Nat × (Nat → Int64) × Int32 × Int32 × Int32) => match u with | (wz, rz2, fz2, zz2, v2, y1, y2, y3) => [(hly, .inr (5, [.ref hr, .ref ha, .ref wk, .ref hs1, .ref hs2, .ref w1, .ref w2, .int (nI dn), .int fu, .int ver, .ref spa, .ref aga, .ref ona])), (ha, .inr (0, [.ref hr, .ref hg, .int y1, .int y2, .int y3])), (hr, .inr (7, [.int (nI n), .int (nI k), .int (nI al), .int (nI be), .int ea, .int pr, .ref sm, .int (nI se), .ref ca])), (hs1, .inr (9, [.ref ra1, .ref sa1, .int (nI sz1)])), (ra1, .inl (cs 0, 16008, .inl rf1)), (sa1, .inl (cs 0, 4096, .inl sf1)), (hs2, .inr (9, [.ref ra2, .ref sa2, .int (nI zz2)])), (ra2, .inl (cs 0, 16008, .inl rz2)), (sa2, .inl (cs 0, 4096, .inl fz2)), (wk, .inl (cs 0, 8, .inl wz)), (w1, .inl (cs 1, 2000, .inr (.inl u1))), (w2, .inl (cs 1, 2000, .inr (.inl v2))), (hg, .inr (4, [.ref nd, .ref kd, .ref lk, .ref vw])), (kd, .inl (cs 0, 8, .inl kf)), (lk, .inl (cs 0, 8, .inl lf)), (ca, .inl (cs 0, 8, .inl cf)), (sm, .inl (cs 5, 8, .inr (.inr (.inr (.inr fsm))))), (q, .inl (cs 0, 35, .inl sg))])) A) args s 0 0 A) (F0 m 157 ls []) := by
        intro n_loop_8
        induction n_loop_8 with
        | zero => intro o g1 g2 g3 g4 gz h_o hgl hgz hlt H locs ls hP hD hS hl; exact absurd hlt (Nat.not_lt_zero _)
        | succ n_loop_8 ih_loop_8 =>
          intro o g1 g2 g3 g4 gz h_o hgl hgz hlt_loop_8 H locs ls hP hD hS hl
          refine lv_iload_n hx hb dX5_spread_157 rfl (lv_at hl 0 rfl) ?_
          refine lv_aload_n hx hb dX5_spread_158 rfl (lv_at hl 1 rfl) ?_
          refine xget C hP 0 rfl rfl zuX5 0 (by decide) zw2_41 rfl dX5_spread_159 ?_
          refine xget C hP 13 rfl rfl zuX7 7 (by decide) zw1_105 rfl dX5_spread_162 ?_
          refine lv_icmp_ge (tgt := 210) hx hb dX5_spread_165 (by decide) (fun c_9 => ?_) (fun c_9 => ?_)
          · -- 165 t
            have fc_9 : se ≤ o := nf_le (by omega) (by omega) c_9
            refine lv_iconst (v := nI 1) hx hb dX5_spread_210 (by decide) ?_
            exact xreti C (⟨g1, g2, g3, gz, g4, y1_3, y2_4, y3_5⟩) (⟨(by decide), hgl, hgz⟩) (xP_map hP [0, 12, 13, 1, 17, 2, 3, 4, 5, 6, 7, 8, 14, 15, 16, 9, 10, 11] rfl) (hD.sub [0, 12, 13, 1, 17, 2, 3, 4, 5, 6, 7, 8, 14, 15, 16, 9, 10, 11] (by decide) rfl) hS (Nat.le_of_ble_eq_true rfl) (Nat.le_of_ble_eq_true rfl) (by decide) dX5_spread_211
          · -- 165 f
            have fc_9 : o < se := nf_nle (by omega) (by omega) c_9
            refine lv_aload_n hx hb dX5_spread_168 rfl (lv_at hl 1 rfl) ?_
            refine xget C hP 0 rfl rfl zuX5 0 (by decide) zw2_41 rfl dX5_spread_169 ?_
            refine xget C hP 13 rfl rfl zuX7 6 (by decide) zw1_101 rfl dX5_spread_172 ?_
            refine lv_iload_n hx hb dX5_spread_175 rfl (lv_at hl 3 rfl) ?_
            refine xaald C hP 10 5 rfl rfl rfl i rfl (by omega) (by decide) hq dX5_spread_176 ?_
            refine lv_iload_n hx hb dX5_spread_177 rfl (lv_at hl 0 rfl) ?_
            refine xiald C hP 11 rfl o rfl (by omega) (by decide) dX5_spread_178 ?_
            refine lv_istore (lv' := [(4, .int (sg o)), (3, .int (nI o)), (0, .ref hly), (1, .int (nI v)), (2, .int (nI i))]) hx hb dX5_spread_179 hl (by decide) rfl ?_
            clear hl
            try clear ls
            intro ls hl
            refine lv_aload_n hx hb dX5_spread_181 rfl (lv_at hl 2 rfl) ?_
            refine lv_iload_n hx hb dX5_spread_182 rfl (lv_at hl 3 rfl) ?_
            refine lv_iload_n hx hb dX5_spread_183 rfl (lv_at hl 4 rfl) ?_
            refine lv_aload_n hx hb dX5_spread_184 rfl (lv_at hl 2 rfl) ?_
            refine xget C hP 0 rfl rfl zuX5 1 (by decide) zw2_42 rfl dX5_spread_185 ?_
            refine lv_iload hx hb dX5_spread_188 (lv_at hl 0 rfl) ?_
            refine xi (wr := [(hly, .inr (5, [.ref hr, .ref ha, .ref wk, .ref hs1, .ref hs2, .ref w1, .ref w2, .int (nI dn), .int fu, .int ver, .ref spa, .ref aga, .ref ona])), (hs1, .inr (9, [.ref ra1, .ref sa1, .int (nI sz1)])), (sa1, .inl (cs 0, 4096, .inl sf1)), (hs2, .inr (9, [.ref ra2, .ref sa2, .int (nI gz)])), (ra2, .inl (cs 0, 16008, .inl g2)), (sa2, .inl (cs 0, 4096, .inl g3)), (wk, .inl (cs 0, 8, .inl g1)), (w1, .inl (cs 1, 2000, .inr (.inl u1))), (w2, .inl (cs 1, 2000, .inr (.inl g4))), (ca, .inl (cs 0, 8, .inl cf)), (sm, .inl (cs 5, 8, .inr (.inr (.inr (.inr fsm))))), (q, .inl (cs 0, 35, .inl sg)), (hg, .inr (4, [.ref nd, .ref kd, .ref lk, .ref vw])), (kd, .inl (cs 0, 8, .inl kf)), (lk, .inl (cs 0, 8, .inl lf)), (ra1, .inl (cs 0, 16008, .inl rf1))]) (xV (As := [.int (sg o)]) (rest := [.int (nI i), .int (nI v), .ref hly]) C (c_X0_winner l D cs ha hg hr sm ca n k al be se ea pr y1_3 y2_4 y3_5 (sg o)) kX5_145 hP hD [12, 13] rfl (by decide) 0 rfl rfl rfl ⟨Nat.le_of_ble_eq_true rfl, Nat.le_of_ble_eq_true rfl⟩ rfl hl.1 rfl (Nat.le_of_ble_eq_true rfl) dX5_spread_190 ⟨Nat.le_of_ble_eq_true rfl, Nat.le_of_ble_eq_true rfl⟩) hP hD hS hA [12, 13] [0, 1, 2, 3, 4, 5, 6, 7, 8, 9, 10, 11, 14, 15, 16, 17] rfl rfl (by decide) (by decide) ?_
            clear hP hD hS
            try clear locs
            try clear H
            intro r_10 u_11 H locs hw_r_10 hP hD hS
            refine W.widen (k := 0) (n := 0) (Nat.le_of_ble_eq_true rfl) (Nat.le_of_ble_eq_true rfl) ?_
            replace hP : va_P D vwCl [(hly, .inr (5, [.ref hr, .ref ha, .ref wk, .ref hs1, .ref hs2, .ref w1, .ref w2, .int (nI dn), .int fu, .int ver, .ref spa, .ref aga, .ref ona])), (hs1, .inr (9, [.ref ra1, .ref sa1, .int (nI sz1)])), (sa1, .inl (cs 0, 4096, .inl sf1)), (hs2, .inr (9, [.ref ra2, .ref sa2, .int (nI gz)])), (ra2, .inl (cs 0, 16008, .inl g2)), (sa2, .inl (cs 0, 4096, .inl g3)), (wk, .inl (cs 0, 8, .inl g1)), (w1, .inl (cs 1, 2000, .inr (.inl u1))), (w2, .inl (cs 1, 2000, .inr (.inl g4))), (ca, .inl (cs 0, 8, .inl cf)), (sm, .inl (cs 5, 8, .inr (.inr (.inr (.inr fsm))))), (q, .inl (cs 0, 35, .inl sg)), (hg, .inr (4, [.ref nd, .ref kd, .ref lk, .ref vw])), (kd, .inl (cs 0, 8, .inl kf)), (lk, .inl (cs 0, 8, .inl lf)), (ra1, .inl (cs 0, 16008, .inl rf1)), (ha, .inr (0, [.ref hr, .ref hg, .int y1_3, .int y2_4, .int y3_5])), (hr, .inr (7, [.int (nI n), .int (nI k), .int (nI al), .int (nI be), .int ea, .int pr, .ref sm, .int (nI se), .ref ca]))] H := hP
            replace hD : va_D A [(hly, .inr (5, [.ref hr, .ref ha, .ref wk, .ref hs1, .ref hs2, .ref w1, .ref w2, .int (nI dn), .int fu, .int ver, .ref spa, .ref aga, .ref ona])), (hs1, .inr (9, [.ref ra1, .ref sa1, .int (nI sz1)])), (sa1, .inl (cs 0, 4096, .inl sf1)), (hs2, .inr (9, [.ref ra2, .ref sa2, .int (nI gz)])), (ra2, .inl (cs 0, 16008, .inl g2)), (sa2, .inl (cs 0, 4096, .inl g3)), (wk, .inl (cs 0, 8, .inl g1)), (w1, .inl (cs 1, 2000, .inr (.inl u1))), (w2, .inl (cs 1, 2000, .inr (.inl g4))), (ca, .inl (cs 0, 8, .inl cf)), (sm, .inl (cs 5, 8, .inr (.inr (.inr (.inr fsm))))), (q, .inl (cs 0, 35, .inl sg)), (hg, .inr (4, [.ref nd, .ref kd, .ref lk, .ref vw])), (kd, .inl (cs 0, 8, .inl kf)), (lk, .inl (cs 0, 8, .inl lf)), (ra1, .inl (cs 0, 16008, .inl rf1)), (ha, .inr (0, [.ref hr, .ref hg, .int y1_3, .int y2_4, .int y3_5])), (hr, .inr (7, [.int (nI n), .int (nI k), .int (nI al), .int (nI be), .int ea, .int pr, .ref sm, .int (nI se), .ref ca]))] := hD
            refine lv_iload hx hb dX5_spread_193 (lv_at hl 0 rfl) ?_
            refine lv_iconst (v := nI 1) hx hb dX5_spread_195 (by decide) ?_
            refine xi (wr := [(ca, .inl (cs 0, 8, .inl cf)), (sm, .inl (cs 5, 8, .inr (.inr (.inr (.inr fsm))))), (q, .inl (cs 0, 35, .inl sg)), (hg, .inr (4, [.ref nd, .ref kd, .ref lk, .ref vw])), (kd, .inl (cs 0, 8, .inl kf)), (lk, .inl (cs 0, 8, .inl lf))]) (xV (As := [.int (nI v), .int (nI i), .int r_10, .int (sg o), .int (nI 1)]) (rest := []) C (c_X5_spreadOne l D cs hly hr ha wk spa aga ona hs1 hs2 w1 w2 dn fu ver hg sm ca n k al be se ea pr y1_3 y2_4 y3_5 ra1 sa1 sz1 rf1 sf1 ra2 sa2 gz g2 g3 g1 u1 g4 v i r_10 (sg o) (nI 1) hn hgl hgz hv hi) kX5_137 hP hD [0, 16, 17, 1, 15, 2, 3, 4, 5, 6, 7, 8] rfl (by decide) 0 rfl rfl rfl ⟨Nat.le_of_ble_eq_true rfl, Nat.le_of_ble_eq_true rfl⟩ rfl hl.1 rfl (Nat.le_of_ble_eq_true rfl) dX5_spread_196 ⟨Nat.le_of_ble_eq_true rfl, Nat.le_of_ble_eq_true rfl⟩) hP hD hS hA [0, 16, 17, 1, 15, 2, 3, 4, 5, 6, 7, 8] [9, 10, 11, 12, 13, 14] rfl rfl (by decide) (by decide) ?_
            clear hP hD hS
            try clear locs
            try clear H
            intro r_12 u_13 H locs hw_r_12 hP hD hS
            obtain ⟨wz_14, rz2_15, fz2_16, zz2_17, v2_18⟩ := u_13
            have hw_r_12 : (r_12 = nI 0 ∨ r_12 = nI 1) ∧ slP zz2_17 fz2_16 ∧ zz2_17 ≤ 2000 := hw_r_12
            refine W.widen (k := 0) (n := 0) (Nat.le_of_ble_eq_true rfl) (Nat.le_of_ble_eq_true rfl) ?_
            replace hP : va_P D vwCl [(ca, .inl (cs 0, 8, .inl cf)), (sm, .inl (cs 5, 8, .inr (.inr (.inr (.inr fsm))))), (q, .inl (cs 0, 35, .inl sg)), (hg, .inr (4, [.ref nd, .ref kd, .ref lk, .ref vw])), (kd, .inl (cs 0, 8, .inl kf)), (lk, .inl (cs 0, 8, .inl lf)), (hly, .inr (5, [.ref hr, .ref ha, .ref wk, .ref hs1, .ref hs2, .ref w1, .ref w2, .int (nI dn), .int fu, .int ver, .ref spa, .ref aga, .ref ona])), (ha, .inr (0, [.ref hr, .ref hg, .int y1_3, .int y2_4, .int y3_5])), (hr, .inr (7, [.int (nI n), .int (nI k), .int (nI al), .int (nI be), .int ea, .int pr, .ref sm, .int (nI se), .ref ca])), (hs1, .inr (9, [.ref ra1, .ref sa1, .int (nI sz1)])), (ra1, .inl (cs 0, 16008, .inl rf1)), (sa1, .inl (cs 0, 4096, .inl sf1)), (hs2, .inr (9, [.ref ra2, .ref sa2, .int (nI zz2_17)])), (ra2, .inl (cs 0, 16008, .inl rz2_15)), (sa2, .inl (cs 0, 4096, .inl fz2_16)), (wk, .inl (cs 0, 8, .inl wz_14)), (w1, .inl (cs 1, 2000, .inr (.inl u1))), (w2, .inl (cs 1, 2000, .inr (.inl v2_18)))] H := hP
            replace hD : va_D A [(ca, .inl (cs 0, 8, .inl cf)), (sm, .inl (cs 5, 8, .inr (.inr (.inr (.inr fsm))))), (q, .inl (cs 0, 35, .inl sg)), (hg, .inr (4, [.ref nd, .ref kd, .ref lk, .ref vw])), (kd, .inl (cs 0, 8, .inl kf)), (lk, .inl (cs 0, 8, .inl lf)), (hly, .inr (5, [.ref hr, .ref ha, .ref wk, .ref hs1, .ref hs2, .ref w1, .ref w2, .int (nI dn), .int fu, .int ver, .ref spa, .ref aga, .ref ona])), (ha, .inr (0, [.ref hr, .ref hg, .int y1_3, .int y2_4, .int y3_5])), (hr, .inr (7, [.int (nI n), .int (nI k), .int (nI al), .int (nI be), .int ea, .int pr, .ref sm, .int (nI se), .ref ca])), (hs1, .inr (9, [.ref ra1, .ref sa1, .int (nI sz1)])), (ra1, .inl (cs 0, 16008, .inl rf1)), (sa1, .inl (cs 0, 4096, .inl sf1)), (hs2, .inr (9, [.ref ra2, .ref sa2, .int (nI zz2_17)])), (ra2, .inl (cs 0, 16008, .inl rz2_15)), (sa2, .inl (cs 0, 4096, .inl fz2_16)), (wk, .inl (cs 0, 8, .inl wz_14)), (w1, .inl (cs 1, 2000, .inr (.inl u1))), (w2, .inl (cs 1, 2000, .inr (.inl v2_18)))] := hD
            refine lv_if_ne (tgt := 204) hx hb dX5_spread_199 (by decide) (fun c_19 => ?_) (fun c_19 => ?_)
            · -- 199 t
              refine lv_iinc (v := nI (o + 1)) (lv' := [(3, .int (nI (o + 1))), (4, .int (sg o)), (0, .ref hly), (1, .int (nI v)), (2, .int (nI i))]) hx hb dX5_spread_204 hl (k := 1) rfl (nI_add o 1) (by decide) rfl ?_
              clear hl
              try clear ls
              intro ls hl
              refine lv_goto (tgt := 157) hx hb dX5_spread_207 (by decide) ?_
              exact ih_loop_8 (o + 1) wz_14 rz2_15 fz2_16 v2_18 zz2_17 (by omega) hw_r_12.2.1 hw_r_12.2.2 (by omega) H locs ls (xP_map hP [6, 9, 11, 12, 13, 14, 15, 16, 17, 0, 1, 2, 7, 8, 3, 4, 5, 10] rfl) (hD.sub [6, 9, 11, 12, 13, 14, 15, 16, 17, 0, 1, 2, 7, 8, 3, 4, 5, 10] (by decide) rfl) hS (lv_sub hl [0, 2, 3, 4] rfl)
            · -- 199 f
              refine lv_iconst (v := nI 0) hx hb dX5_spread_202 (by decide) ?_
              exact xreti C (⟨wz_14, rz2_15, fz2_16, zz2_17, v2_18, y1_3, y2_4, y3_5⟩) (⟨(by decide), hw_r_12.2.1, hw_r_12.2.2⟩) (xP_map hP [6, 7, 8, 9, 10, 11, 12, 13, 14, 15, 16, 17, 3, 4, 5, 0, 1, 2] rfl) (hD.sub [6, 7, 8, 9, 10, 11, 12, 13, 14, 15, 16, 17, 3, 4, 5, 0, 1, 2] (by decide) rfl) hS (Nat.le_of_ble_eq_true rfl) (Nat.le_of_ble_eq_true rfl) (by decide) dX5_spread_203
      exact loop_8 _ 0 wf rf2 sf2 u2 sz2 (by omega) hsl2 hsz2 (Nat.lt_succ_self _) H locs ls hP hD hS (lv_sub hl [0, 1, 2, 3] rfl)
    · -- 61 f
      refine lv_aload_n hx hb dX5_spread_64 rfl (lv_at hl 0 rfl) ?_
      refine xget C hP 0 rfl rfl zuX5 0 (by decide) zw2_41 rfl dX5_spread_65 ?_
      refine lv_aload_n hx hb dX5_spread_68 rfl (lv_at hl 0 rfl) ?_
      refine xget C hP 0 rfl rfl zuX5 1 (by decide) zw2_42 rfl dX5_spread_69 ?_
      refine xget C hP 12 rfl rfl zuX0 2 (by decide) zw2_0 rfl dX5_spread_72 ?_
      refine xi (wr := [(hly, .inr (5, [.ref hr, .ref ha, .ref wk, .ref hs1, .ref hs2, .ref w1, .ref w2, .int (nI dn), .int fu, .int ver, .ref spa, .ref aga, .ref ona])), (hs1, .inr (9, [.ref ra1, .ref sa1, .int (nI sz1)])), (sa1, .inl (cs 0, 4096, .inl sf1)), (hs2, .inr (9, [.ref ra2, .ref sa2, .int (nI sz2)])), (ra2, .inl (cs 0, 16008, .inl rf2)), (sa2, .inl (cs 0, 4096, .inl sf2)), (wk, .inl (cs 0, 8, .inl wf)), (w1, .inl (cs 1, 2000, .inr (.inl u1))), (w2, .inl (cs 1, 2000, .inr (.inl u2))), (ca, .inl (cs 0, 8, .inl cf)), (sm, .inl (cs 5, 8, .inr (.inr (.inr (.inr fsm))))), (q, .inl (cs 0, 35, .inl sg)), (ha, .inr (0, [.ref hr, .ref hg, .int y1_3, .int y2_4, .int y3_5])), (hr, .inr (7, [.int (nI n), .int (nI k), .int (nI al), .int (nI be), .int ea, .int pr, .ref sm, .int (nI se), .ref ca])), (hg, .inr (4, [.ref nd, .ref kd, .ref lk, .ref vw])), (kd, .inl (cs 0, 8, .inl kf)), (lk, .inl (cs 0, 8, .inl lf)), (ra1, .inl (cs 0, 16008, .inl rf1))]) (xS (As := [.int y1_3]) (rest := [.ref hr]) C (c_J6_bitCount_0f7a4 l D cs y1_3) kX5_126 hP hD [] rfl (by decide) ⟨Nat.le_of_ble_eq_true rfl, Nat.le_of_ble_eq_true rfl⟩ rfl hl.1 rfl (Nat.le_of_ble_eq_true rfl) dX5_spread_75 ⟨Nat.le_of_ble_eq_true rfl, Nat.le_of_ble_eq_true rfl⟩) hP hD hS hA [] [0, 1, 2, 3, 4, 5, 6, 7, 8, 9, 10, 11, 12, 13, 14, 15, 16, 17] rfl rfl (by decide) (by decide) ?_
      clear hP hD hS
      try clear locs
      try clear H
      intro r_20 u_21 H locs hw_r_20 hP hD hS
      have hw_r_20 : r_20 = bcF y1_3 := hw_r_20
      refine W.widen (k := 0) (n := 0) (Nat.le_of_ble_eq_true rfl) (Nat.le_of_ble_eq_true rfl) ?_
      replace hP : va_P D vwCl [(hly, .inr (5, [.ref hr, .ref ha, .ref wk, .ref hs1, .ref hs2, .ref w1, .ref w2, .int (nI dn), .int fu, .int ver, .ref spa, .ref aga, .ref ona])), (hs1, .inr (9, [.ref ra1, .ref sa1, .int (nI sz1)])), (sa1, .inl (cs 0, 4096, .inl sf1)), (hs2, .inr (9, [.ref ra2, .ref sa2, .int (nI sz2)])), (ra2, .inl (cs 0, 16008, .inl rf2)), (sa2, .inl (cs 0, 4096, .inl sf2)), (wk, .inl (cs 0, 8, .inl wf)), (w1, .inl (cs 1, 2000, .inr (.inl u1))), (w2, .inl (cs 1, 2000, .inr (.inl u2))), (ca, .inl (cs 0, 8, .inl cf)), (sm, .inl (cs 5, 8, .inr (.inr (.inr (.inr fsm))))), (q, .inl (cs 0, 35, .inl sg)), (ha, .inr (0, [.ref hr, .ref hg, .int y1_3, .int y2_4, .int y3_5])), (hr, .inr (7, [.int (nI n), .int (nI k), .int (nI al), .int (nI be), .int ea, .int pr, .ref sm, .int (nI se), .ref ca])), (hg, .inr (4, [.ref nd, .ref kd, .ref lk, .ref vw])), (kd, .inl (cs 0, 8, .inl kf)), (lk, .inl (cs 0, 8, .inl lf)), (ra1, .inl (cs 0, 16008, .inl rf1))] H := hP
      replace hD : va_D A [(hly, .inr (5, [.ref hr, .ref ha, .ref wk, .ref hs1, .ref hs2, .ref w1, .ref w2, .int (nI dn), .int fu, .int ver, .ref spa, .ref aga, .ref ona])), (hs1, .inr (9, [.ref ra1, .ref sa1, .int (nI sz1)])), (sa1, .inl (cs 0, 4096, .inl sf1)), (hs2, .inr (9, [.ref ra2, .ref sa2, .int (nI sz2)])), (ra2, .inl (cs 0, 16008, .inl rf2)), (sa2, .inl (cs 0, 4096, .inl sf2)), (wk, .inl (cs 0, 8, .inl wf)), (w1, .inl (cs 1, 2000, .inr (.inl u1))), (w2, .inl (cs 1, 2000, .inr (.inl u2))), (ca, .inl (cs 0, 8, .inl cf)), (sm, .inl (cs 5, 8, .inr (.inr (.inr (.inr fsm))))), (q, .inl (cs 0, 35, .inl sg)), (ha, .inr (0, [.ref hr, .ref hg, .int y1_3, .int y2_4, .int y3_5])), (hr, .inr (7, [.int (nI n), .int (nI k), .int (nI al), .int (nI be), .int ea, .int pr, .ref sm, .int (nI se), .ref ca])), (hg, .inr (4, [.ref nd, .ref kd, .ref lk, .ref vw])), (kd, .inl (cs 0, 8, .inl kf)), (lk, .inl (cs 0, 8, .inl lf)), (ra1, .inl (cs 0, 16008, .inl rf1))] := hD
      refine xi (wr := [(hly, .inr (5, [.ref hr, .ref ha, .ref wk, .ref hs1, .ref hs2, .ref w1, .ref w2, .int (nI dn), .int fu, .int ver, .ref spa, .ref aga, .ref ona])), (hs1, .inr (9, [.ref ra1, .ref sa1, .int (nI sz1)])), (sa1, .inl (cs 0, 4096, .inl sf1)), (hs2, .inr (9, [.ref ra2, .ref sa2, .int (nI sz2)])), (ra2, .inl (cs 0, 16008, .inl rf2)), (sa2, .inl (cs 0, 4096, .inl sf2)), (wk, .inl (cs 0, 8, .inl wf)), (w1, .inl (cs 1, 2000, .inr (.inl u1))), (w2, .inl (cs 1, 2000, .inr (.inl u2))), (sm, .inl (cs 5, 8, .inr (.inr (.inr (.inr fsm))))), (q, .inl (cs 0, 35, .inl sg)), (ha, .inr (0, [.ref hr, .ref hg, .int y1_3, .int y2_4, .int y3_5])), (hg, .inr (4, [.ref nd, .ref kd, .ref lk, .ref vw])), (kd, .inl (cs 0, 8, .inl kf)), (lk, .inl (cs 0, 8, .inl lf)), (ra1, .inl (cs 0, 16008, .inl rf1))]) (xV (As := [.int r_20]) (rest := []) C (c_X7_carriedBy l D cs hr sm ca n k al be ea pr (nI se) cf r_20 hn) kX5_132 hP hD [13, 9] rfl (by decide) 0 rfl rfl rfl ⟨Nat.le_of_ble_eq_true rfl, Nat.le_of_ble_eq_true rfl⟩ rfl hl.1 rfl (Nat.le_of_ble_eq_true rfl) dX5_spread_78 ⟨Nat.le_of_ble_eq_true rfl, Nat.le_of_ble_eq_true rfl⟩) hP hD hS hA [13, 9] [0, 1, 2, 3, 4, 5, 6, 7, 8, 10, 11, 12, 14, 15, 16, 17] rfl rfl (by decide) (by decide) ?_
      clear hP hD hS
      try clear locs
      try clear H
      intro r_22 u_23 H locs hw_r_22 hP hD hS
      have hw_r_22 : (¬ okN n r_20 ∧ r_22 = nI 0) ∨ ∃ j, j < n ∧ r_20 = nI j ∧ r_22 = cf j := hw_r_22
      refine W.widen (k := 0) (n := 0) (Nat.le_of_ble_eq_true rfl) (Nat.le_of_ble_eq_true rfl) ?_
      replace hP : va_P D vwCl [(hly, .inr (5, [.ref hr, .ref ha, .ref wk, .ref hs1, .ref hs2, .ref w1, .ref w2, .int (nI dn), .int fu, .int ver, .ref spa, .ref aga, .ref ona])), (hs1, .inr (9, [.ref ra1, .ref sa1, .int (nI sz1)])), (sa1, .inl (cs 0, 4096, .inl sf1)), (hs2, .inr (9, [.ref ra2, .ref sa2, .int (nI sz2)])), (ra2, .inl (cs 0, 16008, .inl rf2)), (sa2, .inl (cs 0, 4096, .inl sf2)), (wk, .inl (cs 0, 8, .inl wf)), (w1, .inl (cs 1, 2000, .inr (.inl u1))), (w2, .inl (cs 1, 2000, .inr (.inl u2))), (sm, .inl (cs 5, 8, .inr (.inr (.inr (.inr fsm))))), (q, .inl (cs 0, 35, .inl sg)), (ha, .inr (0, [.ref hr, .ref hg, .int y1_3, .int y2_4, .int y3_5])), (hg, .inr (4, [.ref nd, .ref kd, .ref lk, .ref vw])), (kd, .inl (cs 0, 8, .inl kf)), (lk, .inl (cs 0, 8, .inl lf)), (ra1, .inl (cs 0, 16008, .inl rf1)), (hr, .inr (7, [.int (nI n), .int (nI k), .int (nI al), .int (nI be), .int ea, .int pr, .ref sm, .int (nI se), .ref ca])), (ca, .inl (cs 0, 8, .inl cf))] H := hP
      replace hD : va_D A [(hly, .inr (5, [.ref hr, .ref ha, .ref wk, .ref hs1, .ref hs2, .ref w1, .ref w2, .int (nI dn), .int fu, .int ver, .ref spa, .ref aga, .ref ona])), (hs1, .inr (9, [.ref ra1, .ref sa1, .int (nI sz1)])), (sa1, .inl (cs 0, 4096, .inl sf1)), (hs2, .inr (9, [.ref ra2, .ref sa2, .int (nI sz2)])), (ra2, .inl (cs 0, 16008, .inl rf2)), (sa2, .inl (cs 0, 4096, .inl sf2)), (wk, .inl (cs 0, 8, .inl wf)), (w1, .inl (cs 1, 2000, .inr (.inl u1))), (w2, .inl (cs 1, 2000, .inr (.inl u2))), (sm, .inl (cs 5, 8, .inr (.inr (.inr (.inr fsm))))), (q, .inl (cs 0, 35, .inl sg)), (ha, .inr (0, [.ref hr, .ref hg, .int y1_3, .int y2_4, .int y3_5])), (hg, .inr (4, [.ref nd, .ref kd, .ref lk, .ref vw])), (kd, .inl (cs 0, 8, .inl kf)), (lk, .inl (cs 0, 8, .inl lf)), (ra1, .inl (cs 0, 16008, .inl rf1)), (hr, .inr (7, [.int (nI n), .int (nI k), .int (nI al), .int (nI be), .int ea, .int pr, .ref sm, .int (nI se), .ref ca])), (ca, .inl (cs 0, 8, .inl cf))] := hD
      refine lv_istore_n (lv' := [(3, .int r_22), (0, .ref hly), (1, .int (nI v)), (2, .int (nI i))]) hx hb dX5_spread_81 rfl hl (by decide) rfl ?_
      clear hl
      try clear ls
      intro ls hl
      refine lv_aload_n hx hb dX5_spread_82 rfl (lv_at hl 1 rfl) ?_
      refine xget C hP 0 rfl rfl zuX5 0 (by decide) zw2_41 rfl dX5_spread_83 ?_
      refine lv_aload_n hx hb dX5_spread_86 rfl (lv_at hl 1 rfl) ?_
      refine xget C hP 0 rfl rfl zuX5 1 (by decide) zw2_42 rfl dX5_spread_87 ?_
      refine xget C hP 11 rfl rfl zuX0 3 (by decide) zw2_2 rfl dX5_spread_90 ?_
      refine xi (wr := [(hly, .inr (5, [.ref hr, .ref ha, .ref wk, .ref hs1, .ref hs2, .ref w1, .ref w2, .int (nI dn), .int fu, .int ver, .ref spa, .ref aga, .ref ona])), (hs1, .inr (9, [.ref ra1, .ref sa1, .int (nI sz1)])), (sa1, .inl (cs 0, 4096, .inl sf1)), (hs2, .inr (9, [.ref ra2, .ref sa2, .int (nI sz2)])), (ra2, .inl (cs 0, 16008, .inl rf2)), (sa2, .inl (cs 0, 4096, .inl sf2)), (wk, .inl (cs 0, 8, .inl wf)), (w1, .inl (cs 1, 2000, .inr (.inl u1))), (w2, .inl (cs 1, 2000, .inr (.inl u2))), (sm, .inl (cs 5, 8, .inr (.inr (.inr (.inr fsm))))), (q, .inl (cs 0, 35, .inl sg)), (ha, .inr (0, [.ref hr, .ref hg, .int y1_3, .int y2_4, .int y3_5])), (hg, .inr (4, [.ref nd, .ref kd, .ref lk, .ref vw])), (kd, .inl (cs 0, 8, .inl kf)), (lk, .inl (cs 0, 8, .inl lf)), (ra1, .inl (cs 0, 16008, .inl rf1)), (hr, .inr (7, [.int (nI n), .int (nI k), .int (nI al), .int (nI be), .int ea, .int pr, .ref sm, .int (nI se), .ref ca])), (ca, .inl (cs 0, 8, .inl cf))]) (xS (As := [.int y2_4]) (rest := [.ref hr]) C (c_J6_bitCount_0f7a4 l D cs y2_4) kX5_126 hP hD [] rfl (by decide) ⟨Nat.le_of_ble_eq_true rfl, Nat.le_of_ble_eq_true rfl⟩ rfl hl.1 rfl (Nat.le_of_ble_eq_true rfl) dX5_spread_93 ⟨Nat.le_of_ble_eq_true rfl, Nat.le_of_ble_eq_true rfl⟩) hP hD hS hA [] [0, 1, 2, 3, 4, 5, 6, 7, 8, 9, 10, 11, 12, 13, 14, 15, 16, 17] rfl rfl (by decide) (by decide) ?_
      clear hP hD hS
      try clear locs
      try clear H
      intro r_24 u_25 H locs hw_r_24 hP hD hS
      have hw_r_24 : r_24 = bcF y2_4 := hw_r_24
      refine W.widen (k := 0) (n := 0) (Nat.le_of_ble_eq_true rfl) (Nat.le_of_ble_eq_true rfl) ?_
      replace hP : va_P D vwCl [(hly, .inr (5, [.ref hr, .ref ha, .ref wk, .ref hs1, .ref hs2, .ref w1, .ref w2, .int (nI dn), .int fu, .int ver, .ref spa, .ref aga, .ref ona])), (hs1, .inr (9, [.ref ra1, .ref sa1, .int (nI sz1)])), (sa1, .inl (cs 0, 4096, .inl sf1)), (hs2, .inr (9, [.ref ra2, .ref sa2, .int (nI sz2)])), (ra2, .inl (cs 0, 16008, .inl rf2)), (sa2, .inl (cs 0, 4096, .inl sf2)), (wk, .inl (cs 0, 8, .inl wf)), (w1, .inl (cs 1, 2000, .inr (.inl u1))), (w2, .inl (cs 1, 2000, .inr (.inl u2))), (sm, .inl (cs 5, 8, .inr (.inr (.inr (.inr fsm))))), (q, .inl (cs 0, 35, .inl sg)), (ha, .inr (0, [.ref hr, .ref hg, .int y1_3, .int y2_4, .int y3_5])), (hg, .inr (4, [.ref nd, .ref kd, .ref lk, .ref vw])), (kd, .inl (cs 0, 8, .inl kf)), (lk, .inl (cs 0, 8, .inl lf)), (ra1, .inl (cs 0, 16008, .inl rf1)), (hr, .inr (7, [.int (nI n), .int (nI k), .int (nI al), .int (nI be), .int ea, .int pr, .ref sm, .int (nI se), .ref ca])), (ca, .inl (cs 0, 8, .inl cf))] H := hP
      replace hD : va_D A [(hly, .inr (5, [.ref hr, .ref ha, .ref wk, .ref hs1, .ref hs2, .ref w1, .ref w2, .int (nI dn), .int fu, .int ver, .ref spa, .ref aga, .ref ona])), (hs1, .inr (9, [.ref ra1, .ref sa1, .int (nI sz1)])), (sa1, .inl (cs 0, 4096, .inl sf1)), (hs2, .inr (9, [.ref ra2, .ref sa2, .int (nI sz2)])), (ra2, .inl (cs 0, 16008, .inl rf2)), (sa2, .inl (cs 0, 4096, .inl sf2)), (wk, .inl (cs 0, 8, .inl wf)), (w1, .inl (cs 1, 2000, .inr (.inl u1))), (w2, .inl (cs 1, 2000, .inr (.inl u2))), (sm, .inl (cs 5, 8, .inr (.inr (.inr (.inr fsm))))), (q, .inl (cs 0, 35, .inl sg)), (ha, .inr (0, [.ref hr, .ref hg, .int y1_3, .int y2_4, .int y3_5])), (hg, .inr (4, [.ref nd, .ref kd, .ref lk, .ref vw])), (kd, .inl (cs 0, 8, .inl kf)), (lk, .inl (cs 0, 8, .inl lf)), (ra1, .inl (cs 0, 16008, .inl rf1)), (hr, .inr (7, [.int (nI n), .int (nI k), .int (nI al), .int (nI be), .int ea, .int pr, .ref sm, .int (nI se), .ref ca])), (ca, .inl (cs 0, 8, .inl cf))] := hD
      refine xi (wr := [(hly, .inr (5, [.ref hr, .ref ha, .ref wk, .ref hs1, .ref hs2, .ref w1, .ref w2, .int (nI dn), .int fu, .int ver, .ref spa, .ref aga, .ref ona])), (hs1, .inr (9, [.ref ra1, .ref sa1, .int (nI sz1)])), (sa1, .inl (cs 0, 4096, .inl sf1)), (hs2, .inr (9, [.ref ra2, .ref sa2, .int (nI sz2)])), (ra2, .inl (cs 0, 16008, .inl rf2)), (sa2, .inl (cs 0, 4096, .inl sf2)), (wk, .inl (cs 0, 8, .inl wf)), (w1, .inl (cs 1, 2000, .inr (.inl u1))), (w2, .inl (cs 1, 2000, .inr (.inl u2))), (sm, .inl (cs 5, 8, .inr (.inr (.inr (.inr fsm))))), (q, .inl (cs 0, 35, .inl sg)), (ha, .inr (0, [.ref hr, .ref hg, .int y1_3, .int y2_4, .int y3_5])), (hg, .inr (4, [.ref nd, .ref kd, .ref lk, .ref vw])), (kd, .inl (cs 0, 8, .inl kf)), (lk, .inl (cs 0, 8, .inl lf)), (ra1, .inl (cs 0, 16008, .inl rf1))]) (xV (As := [.int r_24]) (rest := []) C (c_X7_carriedBy l D cs hr sm ca n k al be ea pr (nI se) cf r_24 hn) kX5_132 hP hD [16, 17] rfl (by decide) 0 rfl rfl rfl ⟨Nat.le_of_ble_eq_true rfl, Nat.le_of_ble_eq_true rfl⟩ rfl hl.1 rfl (Nat.le_of_ble_eq_true rfl) dX5_spread_96 ⟨Nat.le_of_ble_eq_true rfl, Nat.le_of_ble_eq_true rfl⟩) hP hD hS hA [16, 17] [0, 1, 2, 3, 4, 5, 6, 7, 8, 9, 10, 11, 12, 13, 14, 15] rfl rfl (by decide) (by decide) ?_
      clear hP hD hS
      try clear locs
      try clear H
      intro r_26 u_27 H locs hw_r_26 hP hD hS
      have hw_r_26 : (¬ okN n r_24 ∧ r_26 = nI 0) ∨ ∃ j, j < n ∧ r_24 = nI j ∧ r_26 = cf j := hw_r_26
      refine W.widen (k := 0) (n := 0) (Nat.le_of_ble_eq_true rfl) (Nat.le_of_ble_eq_true rfl) ?_
      replace hP : va_P D vwCl [(hly, .inr (5, [.ref hr, .ref ha, .ref wk, .ref hs1, .ref hs2, .ref w1, .ref w2, .int (nI dn), .int fu, .int ver, .ref spa, .ref aga, .ref ona])), (hs1, .inr (9, [.ref ra1, .ref sa1, .int (nI sz1)])), (sa1, .inl (cs 0, 4096, .inl sf1)), (hs2, .inr (9, [.ref ra2, .ref sa2, .int (nI sz2)])), (ra2, .inl (cs 0, 16008, .inl rf2)), (sa2, .inl (cs 0, 4096, .inl sf2)), (wk, .inl (cs 0, 8, .inl wf)), (w1, .inl (cs 1, 2000, .inr (.inl u1))), (w2, .inl (cs 1, 2000, .inr (.inl u2))), (sm, .inl (cs 5, 8, .inr (.inr (.inr (.inr fsm))))), (q, .inl (cs 0, 35, .inl sg)), (ha, .inr (0, [.ref hr, .ref hg, .int y1_3, .int y2_4, .int y3_5])), (hg, .inr (4, [.ref nd, .ref kd, .ref lk, .ref vw])), (kd, .inl (cs 0, 8, .inl kf)), (lk, .inl (cs 0, 8, .inl lf)), (ra1, .inl (cs 0, 16008, .inl rf1)), (hr, .inr (7, [.int (nI n), .int (nI k), .int (nI al), .int (nI be), .int ea, .int pr, .ref sm, .int (nI se), .ref ca])), (ca, .inl (cs 0, 8, .inl cf))] H := hP
      replace hD : va_D A [(hly, .inr (5, [.ref hr, .ref ha, .ref wk, .ref hs1, .ref hs2, .ref w1, .ref w2, .int (nI dn), .int fu, .int ver, .ref spa, .ref aga, .ref ona])), (hs1, .inr (9, [.ref ra1, .ref sa1, .int (nI sz1)])), (sa1, .inl (cs 0, 4096, .inl sf1)), (hs2, .inr (9, [.ref ra2, .ref sa2, .int (nI sz2)])), (ra2, .inl (cs 0, 16008, .inl rf2)), (sa2, .inl (cs 0, 4096, .inl sf2)), (wk, .inl (cs 0, 8, .inl wf)), (w1, .inl (cs 1, 2000, .inr (.inl u1))), (w2, .inl (cs 1, 2000, .inr (.inl u2))), (sm, .inl (cs 5, 8, .inr (.inr (.inr (.inr fsm))))), (q, .inl (cs 0, 35, .inl sg)), (ha, .inr (0, [.ref hr, .ref hg, .int y1_3, .int y2_4, .int y3_5])), (hg, .inr (4, [.ref nd, .ref kd, .ref lk, .ref vw])), (kd, .inl (cs 0, 8, .inl kf)), (lk, .inl (cs 0, 8, .inl lf)), (ra1, .inl (cs 0, 16008, .inl rf1)), (hr, .inr (7, [.int (nI n), .int (nI k), .int (nI al), .int (nI be), .int ea, .int pr, .ref sm, .int (nI se), .ref ca])), (ca, .inl (cs 0, 8, .inl cf))] := hD
      refine lv_istore (lv' := [(4, .int r_26), (3, .int r_22), (0, .ref hly), (1, .int (nI v)), (2, .int (nI i))]) hx hb dX5_spread_99 hl (by decide) rfl ?_
      clear hl
      try clear ls
      intro ls hl
      refine lv_aload_n hx hb dX5_spread_101 rfl (lv_at hl 2 rfl) ?_
      refine lv_iload_n hx hb dX5_spread_102 rfl (lv_at hl 3 rfl) ?_
      refine lv_iload_n hx hb dX5_spread_103 rfl (lv_at hl 4 rfl) ?_
      refine lv_iconst (v := nI 0) hx hb dX5_spread_104 (by decide) ?_
      refine lv_iconst (v := nI 0) hx hb dX5_spread_105 (by decide) ?_
      refine lv_iload_n hx hb dX5_spread_106 rfl (lv_at hl 1 rfl) ?_
      refine xi (wr := [(sm, .inl (cs 5, 8, .inr (.inr (.inr (.inr fsm))))), (q, .inl (cs 0, 35, .inl sg)), (hg, .inr (4, [.ref nd, .ref kd, .ref lk, .ref vw])), (kd, .inl (cs 0, 8, .inl kf)), (lk, .inl (cs 0, 8, .inl lf)), (ca, .inl (cs 0, 8, .inl cf))]) (xV (As := [.int (nI v), .int (nI i), .int (nI 0), .int (nI 0), .int r_22]) (rest := []) C (c_X5_spreadOne l D cs hly hr ha wk spa aga ona hs1 hs2 w1 w2 dn fu ver hg sm ca n k al be se ea pr y1_3 y2_4 y3_5 ra1 sa1 sz1 rf1 sf1 ra2 sa2 sz2 rf2 sf2 wf u1 u2 v i (nI 0) (nI 0) r_22 hn hsl2 hsz2 hv hi) kX5_137 hP hD [0, 11, 16, 1, 15, 2, 3, 4, 5, 6, 7, 8] rfl (by decide) 0 rfl rfl rfl ⟨Nat.le_of_ble_eq_true rfl, Nat.le_of_ble_eq_true rfl⟩ rfl hl.1 rfl (Nat.le_of_ble_eq_true rfl) dX5_spread_107 ⟨Nat.le_of_ble_eq_true rfl, Nat.le_of_ble_eq_true rfl⟩) hP hD hS hA [0, 11, 16, 1, 15, 2, 3, 4, 5, 6, 7, 8] [9, 10, 12, 13, 14, 17] rfl rfl (by decide) (by decide) ?_
      clear hP hD hS
      try clear locs
      try clear H
      intro r_28 u_29 H locs hw_r_28 hP hD hS
      obtain ⟨wz_30, rz2_31, fz2_32, zz2_33, v2_34⟩ := u_29
      have hw_r_28 : (r_28 = nI 0 ∨ r_28 = nI 1) ∧ slP zz2_33 fz2_32 ∧ zz2_33 ≤ 2000 := hw_r_28
      refine W.widen (k := 0) (n := 0) (Nat.le_of_ble_eq_true rfl) (Nat.le_of_ble_eq_true rfl) ?_
      replace hP : va_P D vwCl [(sm, .inl (cs 5, 8, .inr (.inr (.inr (.inr fsm))))), (q, .inl (cs 0, 35, .inl sg)), (hg, .inr (4, [.ref nd, .ref kd, .ref lk, .ref vw])), (kd, .inl (cs 0, 8, .inl kf)), (lk, .inl (cs 0, 8, .inl lf)), (ca, .inl (cs 0, 8, .inl cf)), (hly, .inr (5, [.ref hr, .ref ha, .ref wk, .ref hs1, .ref hs2, .ref w1, .ref w2, .int (nI dn), .int fu, .int ver, .ref spa, .ref aga, .ref ona])), (ha, .inr (0, [.ref hr, .ref hg, .int y1_3, .int y2_4, .int y3_5])), (hr, .inr (7, [.int (nI n), .int (nI k), .int (nI al), .int (nI be), .int ea, .int pr, .ref sm, .int (nI se), .ref ca])), (hs1, .inr (9, [.ref ra1, .ref sa1, .int (nI sz1)])), (ra1, .inl (cs 0, 16008, .inl rf1)), (sa1, .inl (cs 0, 4096, .inl sf1)), (hs2, .inr (9, [.ref ra2, .ref sa2, .int (nI zz2_33)])), (ra2, .inl (cs 0, 16008, .inl rz2_31)), (sa2, .inl (cs 0, 4096, .inl fz2_32)), (wk, .inl (cs 0, 8, .inl wz_30)), (w1, .inl (cs 1, 2000, .inr (.inl u1))), (w2, .inl (cs 1, 2000, .inr (.inl v2_34)))] H := hP
      replace hD : va_D A [(sm, .inl (cs 5, 8, .inr (.inr (.inr (.inr fsm))))), (q, .inl (cs 0, 35, .inl sg)), (hg, .inr (4, [.ref nd, .ref kd, .ref lk, .ref vw])), (kd, .inl (cs 0, 8, .inl kf)), (lk, .inl (cs 0, 8, .inl lf)), (ca, .inl (cs 0, 8, .inl cf)), (hly, .inr (5, [.ref hr, .ref ha, .ref wk, .ref hs1, .ref hs2, .ref w1, .ref w2, .int (nI dn), .int fu, .int ver, .ref spa, .ref aga, .ref ona])), (ha, .inr (0, [.ref hr, .ref hg, .int y1_3, .int y2_4, .int y3_5])), (hr, .inr (7, [.int (nI n), .int (nI k), .int (nI al), .int (nI be), .int ea, .int pr, .ref sm, .int (nI se), .ref ca])), (hs1, .inr (9, [.ref ra1, .ref sa1, .int (nI sz1)])), (ra1, .inl (cs 0, 16008, .inl rf1)), (sa1, .inl (cs 0, 4096, .inl sf1)), (hs2, .inr (9, [.ref ra2, .ref sa2, .int (nI zz2_33)])), (ra2, .inl (cs 0, 16008, .inl rz2_31)), (sa2, .inl (cs 0, 4096, .inl fz2_32)), (wk, .inl (cs 0, 8, .inl wz_30)), (w1, .inl (cs 1, 2000, .inr (.inl u1))), (w2, .inl (cs 1, 2000, .inr (.inl v2_34)))] := hD
      refine lv_if_eq (tgt := 153) hx hb dX5_spread_110 (by decide) (fun c_35 => ?_) (fun c_35 => ?_)
      · -- 110 t
        refine lv_iconst (v := nI 0) hx hb dX5_spread_153 (by decide) ?_
        exact xreti C (⟨wz_30, rz2_31, fz2_32, zz2_33, v2_34, y1_3, y2_4, y3_5⟩) (⟨(by decide), hw_r_28.2.1, hw_r_28.2.2⟩) (xP_map hP [6, 7, 8, 9, 10, 11, 12, 13, 14, 15, 16, 17, 2, 3, 4, 5, 0, 1] rfl) (hD.sub [6, 7, 8, 9, 10, 11, 12, 13, 14, 15, 16, 17, 2, 3, 4, 5, 0, 1] (by decide) rfl) hS (Nat.le_of_ble_eq_true rfl) (Nat.le_of_ble_eq_true rfl) (by decide) dX5_spread_154
      · -- 110 f
        refine lv_aload_n hx hb dX5_spread_113 rfl (lv_at hl 2 rfl) ?_
        refine lv_iload_n hx hb dX5_spread_114 rfl (lv_at hl 3 rfl) ?_
        refine lv_iload_n hx hb dX5_spread_115 rfl (lv_at hl 4 rfl) ?_
        refine lv_iconst (v := nI 1) hx hb dX5_spread_116 (by decide) ?_
        refine lv_iconst (v := nI 0) hx hb dX5_spread_117 (by decide) ?_
        refine lv_iload hx hb dX5_spread_118 (lv_at hl 0 rfl) ?_
        refine xi (wr := [(sm, .inl (cs 5, 8, .inr (.inr (.inr (.inr fsm))))), (q, .inl (cs 0, 35, .inl sg)), (hg, .inr (4, [.ref nd, .ref kd, .ref lk, .ref vw])), (kd, .inl (cs 0, 8, .inl kf)), (lk, .inl (cs 0, 8, .inl lf)), (ca, .inl (cs 0, 8, .inl cf))]) (xV (As := [.int (nI v), .int (nI i), .int (nI 1), .int (nI 0), .int r_26]) (rest := []) C (c_X5_spreadOne l D cs hly hr ha wk spa aga ona hs1 hs2 w1 w2 dn fu ver hg sm ca n k al be se ea pr y1_3 y2_4 y3_5 ra1 sa1 sz1 rf1 sf1 ra2 sa2 zz2_33 rz2_31 fz2_32 wz_30 u1 v2_34 v i (nI 1) (nI 0) r_26 hn hw_r_28.2.1 hw_r_28.2.2 hv hi) kX5_137 hP hD [6, 7, 8, 9, 10, 11, 12, 13, 14, 15, 16, 17] rfl (by decide) 0 rfl rfl rfl ⟨Nat.le_of_ble_eq_true rfl, Nat.le_of_ble_eq_true rfl⟩ rfl hl.1 rfl (Nat.le_of_ble_eq_true rfl) dX5_spread_120 ⟨Nat.le_of_ble_eq_true rfl, Nat.le_of_ble_eq_true rfl⟩) hP hD hS hA [6, 7, 8, 9, 10, 11, 12, 13, 14, 15, 16, 17] [0, 1, 2, 3, 4, 5] rfl rfl (by decide) (by decide) ?_
        clear hP hD hS
        try clear locs
        try clear H
        intro r_36 u_37 H locs hw_r_36 hP hD hS
        obtain ⟨wz_38, rz2_39, fz2_40, zz2_41, v2_42⟩ := u_37
        have hw_r_36 : (r_36 = nI 0 ∨ r_36 = nI 1) ∧ slP zz2_41 fz2_40 ∧ zz2_41 ≤ 2000 := hw_r_36
        refine W.widen (k := 0) (n := 0) (Nat.le_of_ble_eq_true rfl) (Nat.le_of_ble_eq_true rfl) ?_
        replace hP : va_P D vwCl [(sm, .inl (cs 5, 8, .inr (.inr (.inr (.inr fsm))))), (q, .inl (cs 0, 35, .inl sg)), (hg, .inr (4, [.ref nd, .ref kd, .ref lk, .ref vw])), (kd, .inl (cs 0, 8, .inl kf)), (lk, .inl (cs 0, 8, .inl lf)), (ca, .inl (cs 0, 8, .inl cf)), (hly, .inr (5, [.ref hr, .ref ha, .ref wk, .ref hs1, .ref hs2, .ref w1, .ref w2, .int (nI dn), .int fu, .int ver, .ref spa, .ref aga, .ref ona])), (ha, .inr (0, [.ref hr, .ref hg, .int y1_3, .int y2_4, .int y3_5])), (hr, .inr (7, [.int (nI n), .int (nI k), .int (nI al), .int (nI be), .int ea, .int pr, .ref sm, .int (nI se), .ref ca])), (hs1, .inr (9, [.ref ra1, .ref sa1, .int (nI sz1)])), (ra1, .inl (cs 0, 16008, .inl rf1)), (sa1, .inl (cs 0, 4096, .inl sf1)), (hs2, .inr (9, [.ref ra2, .ref sa2, .int (nI zz2_41)])), (ra2, .inl (cs 0, 16008, .inl rz2_39)), (sa2, .inl (cs 0, 4096, .inl fz2_40)), (wk, .inl (cs 0, 8, .inl wz_38)), (w1, .inl (cs 1, 2000, .inr (.inl u1))), (w2, .inl (cs 1, 2000, .inr (.inl v2_42)))] H := hP
        replace hD : va_D A [(sm, .inl (cs 5, 8, .inr (.inr (.inr (.inr fsm))))), (q, .inl (cs 0, 35, .inl sg)), (hg, .inr (4, [.ref nd, .ref kd, .ref lk, .ref vw])), (kd, .inl (cs 0, 8, .inl kf)), (lk, .inl (cs 0, 8, .inl lf)), (ca, .inl (cs 0, 8, .inl cf)), (hly, .inr (5, [.ref hr, .ref ha, .ref wk, .ref hs1, .ref hs2, .ref w1, .ref w2, .int (nI dn), .int fu, .int ver, .ref spa, .ref aga, .ref ona])), (ha, .inr (0, [.ref hr, .ref hg, .int y1_3, .int y2_4, .int y3_5])), (hr, .inr (7, [.int (nI n), .int (nI k), .int (nI al), .int (nI be), .int ea, .int pr, .ref sm, .int (nI se), .ref ca])), (hs1, .inr (9, [.ref ra1, .ref sa1, .int (nI sz1)])), (ra1, .inl (cs 0, 16008, .inl rf1)), (sa1, .inl (cs 0, 4096, .inl sf1)), (hs2, .inr (9, [.ref ra2, .ref sa2, .int (nI zz2_41)])), (ra2, .inl (cs 0, 16008, .inl rz2_39)), (sa2, .inl (cs 0, 4096, .inl fz2_40)), (wk, .inl (cs 0, 8, .inl wz_38)), (w1, .inl (cs 1, 2000, .inr (.inl u1))), (w2, .inl (cs 1, 2000, .inr (.inl v2_42)))] := hD
        refine lv_if_eq (tgt := 153) hx hb dX5_spread_123 (by decide) (fun c_43 => ?_) (fun c_43 => ?_)
        · -- 123 t
          refine lv_iconst (v := nI 0) hx hb dX5_spread_153 (by decide) ?_
          exact xreti C (⟨wz_38, rz2_39, fz2_40, zz2_41, v2_42, y1_3, y2_4, y3_5⟩) (⟨(by decide), hw_r_36.2.1, hw_r_36.2.2⟩) (xP_map hP [6, 7, 8, 9, 10, 11, 12, 13, 14, 15, 16, 17, 2, 3, 4, 5, 0, 1] rfl) (hD.sub [6, 7, 8, 9, 10, 11, 12, 13, 14, 15, 16, 17, 2, 3, 4, 5, 0, 1] (by decide) rfl) hS (Nat.le_of_ble_eq_true rfl) (Nat.le_of_ble_eq_true rfl) (by decide) dX5_spread_154
        · -- 123 f
          refine lv_aload_n hx hb dX5_spread_126 rfl (lv_at hl 2 rfl) ?_
          refine lv_iload_n hx hb dX5_spread_127 rfl (lv_at hl 3 rfl) ?_
          refine lv_iload_n hx hb dX5_spread_128 rfl (lv_at hl 4 rfl) ?_
          refine lv_iconst (v := (-1)) hx hb dX5_spread_129 (by decide) ?_
          refine lv_iconst (v := nI 0) hx hb dX5_spread_130 (by decide) ?_
          refine lv_aload_n hx hb dX5_spread_131 rfl (lv_at hl 2 rfl) ?_
          refine xget C hP 6 rfl rfl zuX5 0 (by decide) zw2_41 rfl dX5_spread_132 ?_
          refine xget C hP 8 rfl rfl zuX7 7 (by decide) zw1_105 rfl dX5_spread_135 ?_
          refine lv_iload_n hx hb dX5_spread_138 rfl (lv_at hl 1 rfl) ?_
          refine lv_isub hx hb dX5_spread_139 ?_
          refine lv_iload hx hb dX5_spread_140 (lv_at hl 0 rfl) ?_
          refine lv_isub hx hb dX5_spread_142 ?_
          refine xi (wr := [(sm, .inl (cs 5, 8, .inr (.inr (.inr (.inr fsm))))), (q, .inl (cs 0, 35, .inl sg)), (hg, .inr (4, [.ref nd, .ref kd, .ref lk, .ref vw])), (kd, .inl (cs 0, 8, .inl kf)), (lk, .inl (cs 0, 8, .inl lf)), (ca, .inl (cs 0, 8, .inl cf))]) (xV (As := [.int (nI v), .int (nI i), .int (-1), .int (nI 0), .int (((nI se) - r_22) - r_26)]) (rest := []) C (c_X5_spreadOne l D cs hly hr ha wk spa aga ona hs1 hs2 w1 w2 dn fu ver hg sm ca n k al be se ea pr y1_3 y2_4 y3_5 ra1 sa1 sz1 rf1 sf1 ra2 sa2 zz2_41 rz2_39 fz2_40 wz_38 u1 v2_42 v i (-1) (nI 0) (((nI se) - r_22) - r_26) hn hw_r_36.2.1 hw_r_36.2.2 hv hi) kX5_137 hP hD [6, 7, 8, 9, 10, 11, 12, 13, 14, 15, 16, 17] rfl (by decide) 0 rfl rfl rfl ⟨Nat.le_of_ble_eq_true rfl, Nat.le_of_ble_eq_true rfl⟩ rfl hl.1 rfl (Nat.le_of_ble_eq_true rfl) dX5_spread_143 ⟨Nat.le_of_ble_eq_true rfl, Nat.le_of_ble_eq_true rfl⟩) hP hD hS hA [6, 7, 8, 9, 10, 11, 12, 13, 14, 15, 16, 17] [0, 1, 2, 3, 4, 5] rfl rfl (by decide) (by decide) ?_
          clear hP hD hS
          try clear locs
          try clear H
          intro r_44 u_45 H locs hw_r_44 hP hD hS
          obtain ⟨wz_46, rz2_47, fz2_48, zz2_49, v2_50⟩ := u_45
          have hw_r_44 : (r_44 = nI 0 ∨ r_44 = nI 1) ∧ slP zz2_49 fz2_48 ∧ zz2_49 ≤ 2000 := hw_r_44
          refine W.widen (k := 0) (n := 0) (Nat.le_of_ble_eq_true rfl) (Nat.le_of_ble_eq_true rfl) ?_
          replace hP : va_P D vwCl [(sm, .inl (cs 5, 8, .inr (.inr (.inr (.inr fsm))))), (q, .inl (cs 0, 35, .inl sg)), (hg, .inr (4, [.ref nd, .ref kd, .ref lk, .ref vw])), (kd, .inl (cs 0, 8, .inl kf)), (lk, .inl (cs 0, 8, .inl lf)), (ca, .inl (cs 0, 8, .inl cf)), (hly, .inr (5, [.ref hr, .ref ha, .ref wk, .ref hs1, .ref hs2, .ref w1, .ref w2, .int (nI dn), .int fu, .int ver, .ref spa, .ref aga, .ref ona])), (ha, .inr (0, [.ref hr, .ref hg, .int y1_3, .int y2_4, .int y3_5])), (hr, .inr (7, [.int (nI n), .int (nI k), .int (nI al), .int (nI be), .int ea, .int pr, .ref sm, .int (nI se), .ref ca])), (hs1, .inr (9, [.ref ra1, .ref sa1, .int (nI sz1)])), (ra1, .inl (cs 0, 16008, .inl rf1)), (sa1, .inl (cs 0, 4096, .inl sf1)), (hs2, .inr (9, [.ref ra2, .ref sa2, .int (nI zz2_49)])), (ra2, .inl (cs 0, 16008, .inl rz2_47)), (sa2, .inl (cs 0, 4096, .inl fz2_48)), (wk, .inl (cs 0, 8, .inl wz_46)), (w1, .inl (cs 1, 2000, .inr (.inl u1))), (w2, .inl (cs 1, 2000, .inr (.inl v2_50)))] H := hP
          replace hD : va_D A [(sm, .inl (cs 5, 8, .inr (.inr (.inr (.inr fsm))))), (q, .inl (cs 0, 35, .inl sg)), (hg, .inr (4, [.ref nd, .ref kd, .ref lk, .ref vw])), (kd, .inl (cs 0, 8, .inl kf)), (lk, .inl (cs 0, 8, .inl lf)), (ca, .inl (cs 0, 8, .inl cf)), (hly, .inr (5, [.ref hr, .ref ha, .ref wk, .ref hs1, .ref hs2, .ref w1, .ref w2, .int (nI dn), .int fu, .int ver, .ref spa, .ref aga, .ref ona])), (ha, .inr (0, [.ref hr, .ref hg, .int y1_3, .int y2_4, .int y3_5])), (hr, .inr (7, [.int (nI n), .int (nI k), .int (nI al), .int (nI be), .int ea, .int pr, .ref sm, .int (nI se), .ref ca])), (hs1, .inr (9, [.ref ra1, .ref sa1, .int (nI sz1)])), (ra1, .inl (cs 0, 16008, .inl rf1)), (sa1, .inl (cs 0, 4096, .inl sf1)), (hs2, .inr (9, [.ref ra2, .ref sa2, .int (nI zz2_49)])), (ra2, .inl (cs 0, 16008, .inl rz2_47)), (sa2, .inl (cs 0, 4096, .inl fz2_48)), (wk, .inl (cs 0, 8, .inl wz_46)), (w1, .inl (cs 1, 2000, .inr (.inl u1))), (w2, .inl (cs 1, 2000, .inr (.inl v2_50)))] := hD
          refine lv_if_eq (tgt := 153) hx hb dX5_spread_146 (by decide) (fun c_51 => ?_) (fun c_51 => ?_)
          · -- 146 t
            refine lv_iconst (v := nI 0) hx hb dX5_spread_153 (by decide) ?_
            exact xreti C (⟨wz_46, rz2_47, fz2_48, zz2_49, v2_50, y1_3, y2_4, y3_5⟩) (⟨(by decide), hw_r_44.2.1, hw_r_44.2.2⟩) (xP_map hP [6, 7, 8, 9, 10, 11, 12, 13, 14, 15, 16, 17, 2, 3, 4, 5, 0, 1] rfl) (hD.sub [6, 7, 8, 9, 10, 11, 12, 13, 14, 15, 16, 17, 2, 3, 4, 5, 0, 1] (by decide) rfl) hS (Nat.le_of_ble_eq_true rfl) (Nat.le_of_ble_eq_true rfl) (by decide) dX5_spread_154
          · -- 146 f
            refine lv_iconst (v := nI 1) hx hb dX5_spread_149 (by decide) ?_
            refine lv_goto (tgt := 154) hx hb dX5_spread_150 (by decide) ?_
            exact xreti C (⟨wz_46, rz2_47, fz2_48, zz2_49, v2_50, y1_3, y2_4, y3_5⟩) (⟨(by decide), hw_r_44.2.1, hw_r_44.2.2⟩) (xP_map hP [6, 7, 8, 9, 10, 11, 12, 13, 14, 15, 16, 17, 2, 3, 4, 5, 0, 1] rfl) (hD.sub [6, 7, 8, 9, 10, 11, 12, 13, 14, 15, 16, 17, 2, 3, 4, 5, 0, 1] (by decide) rfl) hS (Nat.le_of_ble_eq_true rfl) (Nat.le_of_ble_eq_true rfl) (by decide) dX5_spread_154
  · -- 19 f
    refine lv_aload_n hx hb dX5_spread_22 rfl (lv_at hl 0 rfl) ?_
    refine xget C hP 0 rfl rfl zuX5 3 (by decide) zw2_44 rfl dX5_spread_23 ?_
    refine lv_aload_n hx hb dX5_spread_26 rfl (lv_at hl 0 rfl) ?_
    refine xget C hP 0 rfl rfl zuX5 2 (by decide) zw2_43 rfl dX5_spread_27 ?_
    refine lv_iload_n hx hb dX5_spread_30 rfl (lv_at hl 1 rfl) ?_
    refine xv (wr := [(hly, .inr (5, [.ref hr, .ref ha, .ref wk, .ref hs1, .ref hs2, .ref w1, .ref w2, .int (nI dn), .int fu, .int ver, .ref spa, .ref aga, .ref ona])), (hs2, .inr (9, [.ref ra2, .ref sa2, .int (nI sz2)])), (ra2, .inl (cs 0, 16008, .inl rf2)), (sa2, .inl (cs 0, 4096, .inl sf2)), (w1, .inl (cs 1, 2000, .inr (.inl u1))), (w2, .inl (cs 1, 2000, .inr (.inl u2))), (ca, .inl (cs 0, 8, .inl cf)), (sm, .inl (cs 5, 8, .inr (.inr (.inr (.inr fsm))))), (q, .inl (cs 0, 35, .inl sg)), (ha, .inr (0, [.ref hr, .ref hg, .int y1_3, .int y2_4, .int y3_5])), (hr, .inr (7, [.int (nI n), .int (nI k), .int (nI al), .int (nI be), .int ea, .int pr, .ref sm, .int (nI se), .ref ca])), (hg, .inr (4, [.ref nd, .ref kd, .ref lk, .ref vw])), (kd, .inl (cs 0, 8, .inl kf)), (lk, .inl (cs 0, 8, .inl lf))]) (xV (As := [.ref wk, .int (nI v)]) (rest := []) C (c_X9_copyTo l D cs hs1 ra1 sa1 rf1 sf1 sz1 wk wf v (by omega)) kX5_109 hP hD [1, 17, 2, 6] rfl (by decide) 0 rfl rfl rfl ⟨Nat.le_of_ble_eq_true rfl, Nat.le_of_ble_eq_true rfl⟩ rfl hl.1 rfl (Nat.le_of_ble_eq_true rfl) dX5_spread_31 ⟨Nat.le_of_ble_eq_true rfl, Nat.le_of_ble_eq_true rfl⟩) hP hD hS hA [1, 17, 2, 6] [0, 3, 4, 5, 7, 8, 9, 10, 11, 12, 13, 14, 15, 16] rfl rfl (by decide) (by decide) ?_
    clear hP hD hS
    try clear locs
    try clear H
    intro u_53 H locs hw_r_52 hP hD hS
    refine W.widen (k := 0) (n := 0) (Nat.le_of_ble_eq_true rfl) (Nat.le_of_ble_eq_true rfl) ?_
    replace hP : va_P D vwCl [(hly, .inr (5, [.ref hr, .ref ha, .ref wk, .ref hs1, .ref hs2, .ref w1, .ref w2, .int (nI dn), .int fu, .int ver, .ref spa, .ref aga, .ref ona])), (hs2, .inr (9, [.ref ra2, .ref sa2, .int (nI sz2)])), (ra2, .inl (cs 0, 16008, .inl rf2)), (sa2, .inl (cs 0, 4096, .inl sf2)), (w1, .inl (cs 1, 2000, .inr (.inl u1))), (w2, .inl (cs 1, 2000, .inr (.inl u2))), (ca, .inl (cs 0, 8, .inl cf)), (sm, .inl (cs 5, 8, .inr (.inr (.inr (.inr fsm))))), (q, .inl (cs 0, 35, .inl sg)), (ha, .inr (0, [.ref hr, .ref hg, .int y1_3, .int y2_4, .int y3_5])), (hr, .inr (7, [.int (nI n), .int (nI k), .int (nI al), .int (nI be), .int ea, .int pr, .ref sm, .int (nI se), .ref ca])), (hg, .inr (4, [.ref nd, .ref kd, .ref lk, .ref vw])), (kd, .inl (cs 0, 8, .inl kf)), (lk, .inl (cs 0, 8, .inl lf)), (hs1, .inr (9, [.ref ra1, .ref sa1, .int (nI sz1)])), (ra1, .inl (cs 0, 16008, .inl rf1)), (sa1, .inl (cs 0, 4096, .inl sf1)), (wk, .inl (cs 0, 8, .inl u_53))] H := hP
    replace hD : va_D A [(hly, .inr (5, [.ref hr, .ref ha, .ref wk, .ref hs1, .ref hs2, .ref w1, .ref w2, .int (nI dn), .int fu, .int ver, .ref spa, .ref aga, .ref ona])), (hs2, .inr (9, [.ref ra2, .ref sa2, .int (nI sz2)])), (ra2, .inl (cs 0, 16008, .inl rf2)), (sa2, .inl (cs 0, 4096, .inl sf2)), (w1, .inl (cs 1, 2000, .inr (.inl u1))), (w2, .inl (cs 1, 2000, .inr (.inl u2))), (ca, .inl (cs 0, 8, .inl cf)), (sm, .inl (cs 5, 8, .inr (.inr (.inr (.inr fsm))))), (q, .inl (cs 0, 35, .inl sg)), (ha, .inr (0, [.ref hr, .ref hg, .int y1_3, .int y2_4, .int y3_5])), (hr, .inr (7, [.int (nI n), .int (nI k), .int (nI al), .int (nI be), .int ea, .int pr, .ref sm, .int (nI se), .ref ca])), (hg, .inr (4, [.ref nd, .ref kd, .ref lk, .ref vw])), (kd, .inl (cs 0, 8, .inl kf)), (lk, .inl (cs 0, 8, .inl lf)), (hs1, .inr (9, [.ref ra1, .ref sa1, .int (nI sz1)])), (ra1, .inl (cs 0, 16008, .inl rf1)), (sa1, .inl (cs 0, 4096, .inl sf1)), (wk, .inl (cs 0, 8, .inl u_53))] := hD
    refine lv_aload_n hx hb dX5_spread_34 rfl (lv_at hl 0 rfl) ?_
    refine lv_aload_n hx hb dX5_spread_35 rfl (lv_at hl 0 rfl) ?_
    refine xget C hP 0 rfl rfl zuX5 5 (by decide) zw2_46 rfl dX5_spread_36 ?_
    refine lv_iload_n hx hb dX5_spread_39 rfl (lv_at hl 1 rfl) ?_
    refine xlald C hP 4 rfl v rfl (by omega) (by decide) dX5_spread_40 ?_
    refine lv_aload_n hx hb dX5_spread_41 rfl (lv_at hl 0 rfl) ?_
    refine xget C hP 0 rfl rfl zuX5 0 (by decide) zw2_41 rfl dX5_spread_42 ?_
    refine xget C hP 10 rfl rfl zuX7 7 (by decide) zw1_105 rfl dX5_spread_45 ?_
    refine lv_i2l hx hb dX5_spread_48 rfl ?_
    refine lv_lmul hx hb dX5_spread_49 ?_
    refine xi (wr := [(w1, .inl (cs 1, 2000, .inr (.inl u1))), (ca, .inl (cs 0, 8, .inl cf)), (sm, .inl (cs 5, 8, .inr (.inr (.inr (.inr fsm))))), (q, .inl (cs 0, 35, .inl sg)), (ha, .inr (0, [.ref hr, .ref hg, .int y1_3, .int y2_4, .int y3_5])), (hr, .inr (7, [.int (nI n), .int (nI k), .int (nI al), .int (nI be), .int ea, .int pr, .ref sm, .int (nI se), .ref ca])), (hg, .inr (4, [.ref nd, .ref kd, .ref lk, .ref vw])), (kd, .inl (cs 0, 8, .inl kf)), (lk, .inl (cs 0, 8, .inl lf)), (hs1, .inr (9, [.ref ra1, .ref sa1, .int (nI sz1)])), (ra1, .inl (cs 0, 16008, .inl rf1)), (sa1, .inl (cs 0, 4096, .inl sf1))]) (xV (As := [.long ((u1 v) * ((nI se).toInt64))]) (rest := []) C (c_X5_pass l D cs hly hr ha wk spa aga ona hs1 hs2 w1 w2 dn fu ver ra2 sa2 sz2 rf2 sf2 u_53 u2 ((u1 v) * ((nI se).toInt64)) hsl2 hsz2) kX5_116 hP hD [0, 1, 2, 3, 17, 5] rfl (by decide) 0 rfl rfl rfl ⟨Nat.le_of_ble_eq_true rfl, Nat.le_of_ble_eq_true rfl⟩ rfl hl.1 rfl (Nat.le_of_ble_eq_true rfl) dX5_spread_50 ⟨Nat.le_of_ble_eq_true rfl, Nat.le_of_ble_eq_true rfl⟩) hP hD hS hA [0, 1, 2, 3, 17, 5] [4, 6, 7, 8, 9, 10, 11, 12, 13, 14, 15, 16] rfl rfl (by decide) (by decide) ?_
    clear hP hD hS
    try clear locs
    try clear H
    intro r_54 u_55 H locs hw_r_54 hP hD hS
    obtain ⟨rz2_56, fz2_57, zz2_58, v2_59⟩ := u_55
    have hw_r_54 : (r_54 = nI 0 ∨ r_54 = nI 1) ∧ slP zz2_58 fz2_57 ∧ zz2_58 ≤ 2000 := hw_r_54
    refine W.widen (k := 0) (n := 0) (Nat.le_of_ble_eq_true rfl) (Nat.le_of_ble_eq_true rfl) ?_
    replace hP : va_P D vwCl [(w1, .inl (cs 1, 2000, .inr (.inl u1))), (ca, .inl (cs 0, 8, .inl cf)), (sm, .inl (cs 5, 8, .inr (.inr (.inr (.inr fsm))))), (q, .inl (cs 0, 35, .inl sg)), (ha, .inr (0, [.ref hr, .ref hg, .int y1_3, .int y2_4, .int y3_5])), (hr, .inr (7, [.int (nI n), .int (nI k), .int (nI al), .int (nI be), .int ea, .int pr, .ref sm, .int (nI se), .ref ca])), (hg, .inr (4, [.ref nd, .ref kd, .ref lk, .ref vw])), (kd, .inl (cs 0, 8, .inl kf)), (lk, .inl (cs 0, 8, .inl lf)), (hs1, .inr (9, [.ref ra1, .ref sa1, .int (nI sz1)])), (ra1, .inl (cs 0, 16008, .inl rf1)), (sa1, .inl (cs 0, 4096, .inl sf1)), (hly, .inr (5, [.ref hr, .ref ha, .ref wk, .ref hs1, .ref hs2, .ref w1, .ref w2, .int (nI dn), .int fu, .int ver, .ref spa, .ref aga, .ref ona])), (hs2, .inr (9, [.ref ra2, .ref sa2, .int (nI zz2_58)])), (ra2, .inl (cs 0, 16008, .inl rz2_56)), (sa2, .inl (cs 0, 4096, .inl fz2_57)), (wk, .inl (cs 0, 8, .inl u_53)), (w2, .inl (cs 1, 2000, .inr (.inl v2_59)))] H := hP
    replace hD : va_D A [(w1, .inl (cs 1, 2000, .inr (.inl u1))), (ca, .inl (cs 0, 8, .inl cf)), (sm, .inl (cs 5, 8, .inr (.inr (.inr (.inr fsm))))), (q, .inl (cs 0, 35, .inl sg)), (ha, .inr (0, [.ref hr, .ref hg, .int y1_3, .int y2_4, .int y3_5])), (hr, .inr (7, [.int (nI n), .int (nI k), .int (nI al), .int (nI be), .int ea, .int pr, .ref sm, .int (nI se), .ref ca])), (hg, .inr (4, [.ref nd, .ref kd, .ref lk, .ref vw])), (kd, .inl (cs 0, 8, .inl kf)), (lk, .inl (cs 0, 8, .inl lf)), (hs1, .inr (9, [.ref ra1, .ref sa1, .int (nI sz1)])), (ra1, .inl (cs 0, 16008, .inl rf1)), (sa1, .inl (cs 0, 4096, .inl sf1)), (hly, .inr (5, [.ref hr, .ref ha, .ref wk, .ref hs1, .ref hs2, .ref w1, .ref w2, .int (nI dn), .int fu, .int ver, .ref spa, .ref aga, .ref ona])), (hs2, .inr (9, [.ref ra2, .ref sa2, .int (nI zz2_58)])), (ra2, .inl (cs 0, 16008, .inl rz2_56)), (sa2, .inl (cs 0, 4096, .inl fz2_57)), (wk, .inl (cs 0, 8, .inl u_53)), (w2, .inl (cs 1, 2000, .inr (.inl v2_59)))] := hD
    exact xreti C (⟨u_53, rz2_56, fz2_57, zz2_58, v2_59, y1_3, y2_4, y3_5⟩) (⟨hw_r_54.1, hw_r_54.2.1, hw_r_54.2.2⟩) (xP_map hP [12, 4, 5, 9, 10, 11, 13, 14, 15, 16, 0, 17, 6, 7, 8, 1, 2, 3] rfl) (hD.sub [12, 4, 5, 9, 10, 11, 13, 14, 15, 16, 0, 17, 6, 7, 8, 1, 2, 3] (by decide) rfl) hS (Nat.le_of_ble_eq_true rfl) (Nat.le_of_ble_eq_true rfl) (nb_of hw_r_54.1) dX5_spread_53
