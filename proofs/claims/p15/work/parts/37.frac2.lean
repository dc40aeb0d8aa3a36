set_option maxHeartbeats 4000000 in
set_option maxRecDepth 100000 in
theorem c_X2_least_w (l : Launch) (D : va_G) (cs : Nat → ClassId) (a b : Int64) : xMet l D cs yX2_least cX2_least 6 (some (.object "SampleHouse$Fraction")) ({ frames := 2, cells := 1, slots := 2, locals := 44 } : Room) [.long a, .long b] [] (xQr D (fun (u : Int64 × Int64) => match u with | (va, vb) => True) (fun (u : Int64 × Int64) (ra : Nat) => match u with | (va, vb) => [(ra, .inr (2, [.long va, .long vb]))])) := by
  refine xMet.intro (by decide) (Nat.le_of_ble_eq_true rfl) ?_
  intro p e s m args below meth c A ls C hP hD hS hl
  have hx := C.1
  have hb := C.2.1
  have hz := C.2.2.2.2.1
  have hown := C.2.2.2.1
  have hA := C.2.2.2.2.2.2.2.2.2
  have hAO := C.2.2.2.2.2.2.2.2.1.2.2
  replace hl : lv_has ls 6 [(0, .long a), (2, .long b)] := hl
  obtain ⟨H, hH⟩ : ∃ H, H = s.heap := ⟨_, rfl⟩
  replace hP : va_P D vwCl [] H := by rw [hH]; exact hP
  replace hS : va_S A s.heap H [] := by rw [hH]; exact hS
  obtain ⟨locs, hlocs⟩ : ∃ z : List Loc, z = [] := ⟨_, rfl⟩
  rw [← hlocs] at hS
  suffices hW : W p l e ({ frames := 2, cells := 1, slots := 2, locals := 44 } : Room) s m args below meth c H locs 0 0 (MQ below ((xQr D (fun (u : Int64 × Int64) => match u with | (va, vb) => True) (fun (u : Int64 × Int64) (ra : Nat) => match u with | (va, vb) => [(ra, .inr (2, [.long va, .long vb]))])) A) args s 1 2 A) (F0 m 0 ls []) by rw [hlocs, hH] at hW; exact hW
  clear hH hlocs
  refine lv_lload_n hx hb dX2_least_0 rfl (lv_at hl 0 rfl) ?_
  refine lv_lconst (v := 0) hx hb dX2_least_1 (by decide) ?_
  refine W.lcmp hx hb dX2_least_2 ?_
  refine lv_if_lt (tgt := 12) hx hb dX2_least_3 (by decide) (fun c_1 => ?_) (fun c_1 => ?_)
  · -- 3 t
    refine xnew (ci := 2) (fs := [.long 0, .long 0]) C hP hD hS rfl zuX2 tyX2 tyX2_ok zw4_117 zw4_118 zw1_17 (fun j hj => by rcases (show j = 0 ∨ j = 1 by omega) with rfl | rfl <;> rfl) (Nat.le_of_ble_eq_true rfl) (Nat.le_of_ble_eq_true rfl) dX2_least_12 ?_
    clear hP hD hS
    try clear H
    intro q_2 H hP hD hS
    refine W.widen (k := 1) (n := 2) (Nat.le_of_ble_eq_true rfl) (Nat.le_of_ble_eq_true rfl) ?_
    replace hP : va_P D vwCl [(q_2, .inr (2, [.long 0, .long 0]))] H := hP
    replace hD : va_D A [(q_2, .inr (2, [.long 0, .long 0]))] := hD
    refine lv_dup hx hb dX2_least_15 rfl ?_
    refine lv_lconst (v := 0) hx hb dX2_least_16 (by decide) ?_
    refine lv_lconst (v := 0) hx hb dX2_least_17 (by decide) ?_
    refine xv (wr := []) (xI (As := [.long 0, .long 0]) (rest := [.ref q_2]) C (c_X2_init l D cs q_2 0 0 0 0) kX2_18 hP hD [0] rfl (by decide) ⟨Nat.le_of_ble_eq_true rfl, Nat.le_of_ble_eq_true rfl⟩ rfl hl.1 rfl (Nat.le_of_ble_eq_true rfl) dX2_least_18 ⟨Nat.le_of_ble_eq_true rfl, Nat.le_of_ble_eq_true rfl⟩) hP hD hS hA [0] [] rfl rfl (by decide) (by decide) ?_
    clear hP hD hS
    try clear locs
    try clear H
    intro u_4 H locs hw_r_3 hP hD hS
    refine W.widen (k := 1) (n := 2) (Nat.le_of_ble_eq_true rfl) (Nat.le_of_ble_eq_true rfl) ?_
    replace hP : va_P D vwCl [(q_2, .inr (2, [.long 0, .long 0]))] H := hP
    replace hD : va_D A [(q_2, .inr (2, [.long 0, .long 0]))] := hD
    exact xretr C (Or.inl ⟨_, rfl⟩) (⟨0, 0⟩) trivial hP hD hS (Nat.le_of_ble_eq_true rfl) (Nat.le_of_ble_eq_true rfl) dX2_least_21
  · -- 3 f
    refine lv_lload_n hx hb dX2_least_6 rfl (lv_at hl 1 rfl) ?_
    refine lv_lconst (v := 0) hx hb dX2_least_7 (by decide) ?_
    refine W.lcmp hx hb dX2_least_8 ?_
    refine lv_if_gt (tgt := 22) hx hb dX2_least_9 (by decide) (fun c_5 => ?_) (fun c_5 => ?_)
    · -- 9 t
      refine lv_lload_n hx hb dX2_least_22 rfl (lv_at hl 0 rfl) ?_
      refine lv_lload_n hx hb dX2_least_23 rfl (lv_at hl 1 rfl) ?_
      refine xl (wr := []) (xS (As := [.long a, .long b]) (rest := []) C (c_X2_common l D cs a b) kX2_21 hP hD [] rfl (by decide) ⟨Nat.le_of_ble_eq_true rfl, Nat.le_of_ble_eq_true rfl⟩ rfl hl.1 rfl (Nat.le_of_ble_eq_true rfl) dX2_least_24 ⟨Nat.le_of_ble_eq_true rfl, Nat.le_of_ble_eq_true rfl⟩) hP hD hS hA [] [] rfl rfl (by decide) (by decide) ?_
      clear hP hD hS
      try clear locs
      try clear H
      intro r_6 u_7 H locs hw_r_6 hP hD hS
      have hw_r_6 : r_6 = gcF a b := hw_r_6
      refine W.widen (k := 0) (n := 0) (Nat.le_of_ble_eq_true rfl) (Nat.le_of_ble_eq_true rfl) ?_
      replace hP : va_P D vwCl [] H := hP
      replace hD : va_D A [] := hD
      subst hw_r_6
      refine lv_lstore (lv' := [(4, .long (gcF a b)), (0, .long a), (2, .long b)]) hx hb dX2_least_27 hl (by decide) rfl ?_
      clear hl
      try clear ls
      intro ls hl
      refine lv_lload hx hb dX2_least_29 (lv_at hl 0 rfl) ?_
      refine lv_lconst (v := 0) hx hb dX2_least_31 (by decide) ?_
      refine W.lcmp hx hb dX2_least_32 ?_
      refine lv_if_ne (tgt := 48) hx hb dX2_least_33 (by decide) (fun c_8 => ?_) (fun c_8 => ?_)
      · -- 33 t
        refine xnew (ci := 2) (fs := [.long 0, .long 0]) C hP hD hS rfl zuX2 tyX2 tyX2_ok zw4_117 zw4_118 zw1_17 (fun j hj => by rcases (show j = 0 ∨ j = 1 by omega) with rfl | rfl <;> rfl) (Nat.le_of_ble_eq_true rfl) (Nat.le_of_ble_eq_true rfl) dX2_least_48 ?_
        clear hP hD hS
        try clear H
        intro q_9 H hP hD hS
        refine W.widen (k := 1) (n := 2) (Nat.le_of_ble_eq_true rfl) (Nat.le_of_ble_eq_true rfl) ?_
        replace hP : va_P D vwCl [(q_9, .inr (2, [.long 0, .long 0]))] H := hP
        replace hD : va_D A [(q_9, .inr (2, [.long 0, .long 0]))] := hD
        refine lv_dup hx hb dX2_least_51 rfl ?_
        refine lv_lload_n hx hb dX2_least_52 rfl (lv_at hl 1 rfl) ?_
        refine lv_lload hx hb dX2_least_53 (lv_at hl 0 rfl) ?_
        refine lv_ldiv hx hb dX2_least_55 (l_ne c_8) ?_
        refine lv_lload_n hx hb dX2_least_56 rfl (lv_at hl 2 rfl) ?_
        refine lv_lload hx hb dX2_least_57 (lv_at hl 0 rfl) ?_
        refine lv_ldiv hx hb dX2_least_59 (l_ne c_8) ?_
        refine xv (wr := []) (xI (As := [.long (a / (gcF a b)), .long (b / (gcF a b))]) (rest := [.ref q_9]) C (c_X2_init l D cs q_9 (a / (gcF a b)) (b / (gcF a b)) 0 0) kX2_18 hP hD [0] rfl (by decide) ⟨Nat.le_of_ble_eq_true rfl, Nat.le_of_ble_eq_true rfl⟩ rfl hl.1 rfl (Nat.le_of_ble_eq_true rfl) dX2_least_60 ⟨Nat.le_of_ble_eq_true rfl, Nat.le_of_ble_eq_true rfl⟩) hP hD hS hA [0] [] rfl rfl (by decide) (by decide) ?_
        clear hP hD hS
        try clear locs
        try clear H
        intro u_11 H locs hw_r_10 hP hD hS
        refine W.widen (k := 1) (n := 2) (Nat.le_of_ble_eq_true rfl) (Nat.le_of_ble_eq_true rfl) ?_
        replace hP : va_P D vwCl [(q_9, .inr (2, [.long (a / (gcF a b)), .long (b / (gcF a b))]))] H := hP
        replace hD : va_D A [(q_9, .inr (2, [.long (a / (gcF a b)), .long (b / (gcF a b))]))] := hD
        exact xretr C (Or.inl ⟨_, rfl⟩) (⟨(a / (gcF a b)), (b / (gcF a b))⟩) trivial hP hD hS (Nat.le_of_ble_eq_true rfl) (Nat.le_of_ble_eq_true rfl) dX2_least_63
      · -- 33 f
        refine xnew (ci := 2) (fs := [.long 0, .long 0]) C hP hD hS rfl zuX2 tyX2 tyX2_ok zw4_117 zw4_118 zw1_17 (fun j hj => by rcases (show j = 0 ∨ j = 1 by omega) with rfl | rfl <;> rfl) (Nat.le_of_ble_eq_true rfl) (Nat.le_of_ble_eq_true rfl) dX2_least_36 ?_
        clear hP hD hS
        try clear H
        intro q_12 H hP hD hS
        refine W.widen (k := 1) (n := 2) (Nat.le_of_ble_eq_true rfl) (Nat.le_of_ble_eq_true rfl) ?_
        replace hP : va_P D vwCl [(q_12, .inr (2, [.long 0, .long 0]))] H := hP
        replace hD : va_D A [(q_12, .inr (2, [.long 0, .long 0]))] := hD
        refine lv_dup hx hb dX2_least_39 rfl ?_
        refine lv_lconst (v := 0) hx hb dX2_least_40 (by decide) ?_
        refine lv_lconst (v := 0) hx hb dX2_least_41 (by decide) ?_
        refine xv (wr := []) (xI (As := [.long 0, .long 0]) (rest := [.ref q_12]) C (c_X2_init l D cs q_12 0 0 0 0) kX2_18 hP hD [0] rfl (by decide) ⟨Nat.le_of_ble_eq_true rfl, Nat.le_of_ble_eq_true rfl⟩ rfl hl.1 rfl (Nat.le_of_ble_eq_true rfl) dX2_least_42 ⟨Nat.le_of_ble_eq_true rfl, Nat.le_of_ble_eq_true rfl⟩) hP hD hS hA [0] [] rfl rfl (by decide) (by decide) ?_
        clear hP hD hS
        try clear locs
        try clear H
        intro u_14 H locs hw_r_13 hP hD hS
        refine W.widen (k := 1) (n := 2) (Nat.le_of_ble_eq_true rfl) (Nat.le_of_ble_eq_true rfl) ?_
        replace hP : va_P D vwCl [(q_12, .inr (2, [.long 0, .long 0]))] H := hP
        replace hD : va_D A [(q_12, .inr (2, [.long 0, .long 0]))] := hD
        refine lv_goto (tgt := 63) hx hb dX2_least_45 (by decide) ?_
        exact xretr C (Or.inl ⟨_, rfl⟩) (⟨0, 0⟩) trivial hP hD hS (Nat.le_of_ble_eq_true rfl) (Nat.le_of_ble_eq_true rfl) dX2_least_63
    · -- 9 f
      refine xnew (ci := 2) (fs := [.long 0, .long 0]) C hP hD hS rfl zuX2 tyX2 tyX2_ok zw4_117 zw4_118 zw1_17 (fun j hj => by rcases (show j = 0 ∨ j = 1 by omega) with rfl | rfl <;> rfl) (Nat.le_of_ble_eq_true rfl) (Nat.le_of_ble_eq_true rfl) dX2_least_12 ?_
      clear hP hD hS
      try clear H
      intro q_15 H hP hD hS
      refine W.widen (k := 1) (n := 2) (Nat.le_of_ble_eq_true rfl) (Nat.le_of_ble_eq_true rfl) ?_
      replace hP : va_P D vwCl [(q_15, .inr (2, [.long 0, .long 0]))] H := hP
      replace hD : va_D A [(q_15, .inr (2, [.long 0, .long 0]))] := hD
      refine lv_dup hx hb dX2_least_15 rfl ?_
      refine lv_lconst (v := 0) hx hb dX2_least_16 (by decide) ?_
      refine lv_lconst (v := 0) hx hb dX2_least_17 (by decide) ?_
      refine xv (wr := []) (xI (As := [.long 0, .long 0]) (rest := [.ref q_15]) C (c_X2_init l D cs q_15 0 0 0 0) kX2_18 hP hD [0] rfl (by decide) ⟨Nat.le_of_ble_eq_true rfl, Nat.le_of_ble_eq_true rfl⟩ rfl hl.1 rfl (Nat.le_of_ble_eq_true rfl) dX2_least_18 ⟨Nat.le_of_ble_eq_true rfl, Nat.le_of_ble_eq_true rfl⟩) hP hD hS hA [0] [] rfl rfl (by decide) (by decide) ?_
      clear hP hD hS
      try clear locs
      try clear H
      intro u_17 H locs hw_r_16 hP hD hS
      refine W.widen (k := 1) (n := 2) (Nat.le_of_ble_eq_true rfl) (Nat.le_of_ble_eq_true rfl) ?_
      replace hP : va_P D vwCl [(q_15, .inr (2, [.long 0, .long 0]))] H := hP
      replace hD : va_D A [(q_15, .inr (2, [.long 0, .long 0]))] := hD
      exact xretr C (Or.inl ⟨_, rfl⟩) (⟨0, 0⟩) trivial hP hD hS (Nat.le_of_ble_eq_true rfl) (Nat.le_of_ble_eq_true rfl) dX2_least_21

set_option maxHeartbeats 4000000 in
set_option maxRecDepth 100000 in
theorem c_X2_plus_w (l : Launch) (D : va_G) (cs : Nat → ClassId) (h h2 : Nat) (a b a2 b2 : Int64) : xMet l D cs yX2_plus cX2_plus 2 (some (.object "SampleHouse$Fraction")) ({ frames := 3, cells := 1, slots := 2, locals := 69 } : Room) [.ref h, .ref h2] [(h, .inr (2, [.long a, .long b])), (h2, .inr (2, [.long a2, .long b2]))] (xQr D (fun (u : Int64 × Int64) => match u with | (va, vb) => True) (fun (u : Int64 × Int64) (ra : Nat) => match u with | (va, vb) => [(h, .inr (2, [.long a, .long b])), (h2, .inr (2, [.long a2, .long b2])), (ra, .inr (2, [.long va, .long vb]))])) := by
  refine xMet.intro (by decide) (Nat.le_of_ble_eq_true rfl) ?_
  intro p e s m args below meth c A ls C hP hD hS hl
  have hx := C.1
  have hb := C.2.1
  have hz := C.2.2.2.2.1
  have hown := C.2.2.2.1
  have hA := C.2.2.2.2.2.2.2.2.2
  have hAO := C.2.2.2.2.2.2.2.2.1.2.2
  replace hl : lv_has ls 2 [(0, .ref h), (1, .ref h2)] := hl
  obtain ⟨H, hH⟩ : ∃ H, H = s.heap := ⟨_, rfl⟩
  replace hP : va_P D vwCl [(h, .inr (2, [.long a, .long b])), (h2, .inr (2, [.long a2, .long b2]))] H := by rw [hH]; exact hP
  replace hS : va_S A s.heap H [] := by rw [hH]; exact hS
  obtain ⟨locs, hlocs⟩ : ∃ z : List Loc, z = [] := ⟨_, rfl⟩
  rw [← hlocs] at hS
  suffices hW : W p l e ({ frames := 3, cells := 1, slots := 2, locals := 69 } : Room) s m args below meth c H locs 0 0 (MQ below ((xQr D (fun (u : Int64 × Int64) => match u with | (va, vb) => True) (fun (u : Int64 × Int64) (ra : Nat) => match u with | (va, vb) => [(h, .inr (2, [.long a, .long b])), (h2, .inr (2, [.long a2, .long b2])), (ra, .inr (2, [.long va, .long vb]))])) A) args s 1 2 A) (F0 m 0 ls []) by rw [hlocs, hH] at hW; exact hW
  clear hH hlocs
  refine lv_aload_n hx hb dX2_plus_0 rfl (lv_at hl 0 rfl) ?_
  refine xget C hP 0 rfl rfl zuX2 0 (by decide) zw4_123 rfl dX2_plus_1 ?_
  refine lv_aload_n hx hb dX2_plus_4 rfl (lv_at hl 1 rfl) ?_
  refine xget C hP 1 rfl rfl zuX2 1 (by decide) zw4_125 rfl dX2_plus_5 ?_
  refine xl (wr := [(h, .inr (2, [.long a, .long b])), (h2, .inr (2, [.long a2, .long b2]))]) (xS (As := [.long a, .long b2]) (rest := []) C (c_X2_product l D cs a b2) kX2_29 hP hD [] rfl (by decide) ⟨Nat.le_of_ble_eq_true rfl, Nat.le_of_ble_eq_true rfl⟩ rfl hl.1 rfl (Nat.le_of_ble_eq_true rfl) dX2_plus_8 ⟨Nat.le_of_ble_eq_true rfl, Nat.le_of_ble_eq_true rfl⟩) hP hD hS hA [] [0, 1] rfl rfl (by decide) (by decide) ?_
  clear hP hD hS
  try clear locs
  try clear H
  intro r_1 u_2 H locs hw_r_1 hP hD hS
  have hw_r_1 : r_1 = prF a b2 := hw_r_1
  refine W.widen (k := 0) (n := 0) (Nat.le_of_ble_eq_true rfl) (Nat.le_of_ble_eq_true rfl) ?_
  replace hP : va_P D vwCl [(h, .inr (2, [.long a, .long b])), (h2, .inr (2, [.long a2, .long b2]))] H := hP
  replace hD : va_D A [(h, .inr (2, [.long a, .long b])), (h2, .inr (2, [.long a2, .long b2]))] := hD
  refine lv_aload_n hx hb dX2_plus_11 rfl (lv_at hl 1 rfl) ?_
  refine xget C hP 1 rfl rfl zuX2 0 (by decide) zw4_123 rfl dX2_plus_12 ?_
  refine lv_aload_n hx hb dX2_plus_15 rfl (lv_at hl 0 rfl) ?_
  refine xget C hP 0 rfl rfl zuX2 1 (by decide) zw4_125 rfl dX2_plus_16 ?_
  refine xl (wr := [(h, .inr (2, [.long a, .long b])), (h2, .inr (2, [.long a2, .long b2]))]) (xS (As := [.long a2, .long b]) (rest := [.long r_1]) C (c_X2_product l D cs a2 b) kX2_29 hP hD [] rfl (by decide) ⟨Nat.le_of_ble_eq_true rfl, Nat.le_of_ble_eq_true rfl⟩ rfl hl.1 rfl (Nat.le_of_ble_eq_true rfl) dX2_plus_19 ⟨Nat.le_of_ble_eq_true rfl, Nat.le_of_ble_eq_true rfl⟩) hP hD hS hA [] [0, 1] rfl rfl (by decide) (by decide) ?_
  clear hP hD hS
  try clear locs
  try clear H
  intro r_3 u_4 H locs hw_r_3 hP hD hS
  have hw_r_3 : r_3 = prF a2 b := hw_r_3
  refine W.widen (k := 0) (n := 0) (Nat.le_of_ble_eq_true rfl) (Nat.le_of_ble_eq_true rfl) ?_
  replace hP : va_P D vwCl [(h, .inr (2, [.long a, .long b])), (h2, .inr (2, [.long a2, .long b2]))] H := hP
  replace hD : va_D A [(h, .inr (2, [.long a, .long b])), (h2, .inr (2, [.long a2, .long b2]))] := hD
  refine xl (wr := [(h, .inr (2, [.long a, .long b])), (h2, .inr (2, [.long a2, .long b2]))]) (xS (As := [.long r_1, .long r_3]) (rest := []) C (c_X2_sum l D cs r_1 r_3) kX2_32 hP hD [] rfl (by decide) ⟨Nat.le_of_ble_eq_true rfl, Nat.le_of_ble_eq_true rfl⟩ rfl hl.1 rfl (Nat.le_of_ble_eq_true rfl) dX2_plus_22 ⟨Nat.le_of_ble_eq_true rfl, Nat.le_of_ble_eq_true rfl⟩) hP hD hS hA [] [0, 1] rfl rfl (by decide) (by decide) ?_
  clear hP hD hS
  try clear locs
  try clear H
  intro r_5 u_6 H locs hw_r_5 hP hD hS
  have hw_r_5 : r_5 = smF r_1 r_3 := hw_r_5
  refine W.widen (k := 0) (n := 0) (Nat.le_of_ble_eq_true rfl) (Nat.le_of_ble_eq_true rfl) ?_
  replace hP : va_P D vwCl [(h, .inr (2, [.long a, .long b])), (h2, .inr (2, [.long a2, .long b2]))] H := hP
  replace hD : va_D A [(h, .inr (2, [.long a, .long b])), (h2, .inr (2, [.long a2, .long b2]))] := hD
  refine lv_aload_n hx hb dX2_plus_25 rfl (lv_at hl 0 rfl) ?_
  refine xget C hP 0 rfl rfl zuX2 1 (by decide) zw4_125 rfl dX2_plus_26 ?_
  refine lv_aload_n hx hb dX2_plus_29 rfl (lv_at hl 1 rfl) ?_
  refine xget C hP 1 rfl rfl zuX2 1 (by decide) zw4_125 rfl dX2_plus_30 ?_
  refine xl (wr := [(h, .inr (2, [.long a, .long b])), (h2, .inr (2, [.long a2, .long b2]))]) (xS (As := [.long b, .long b2]) (rest := [.long r_5]) C (c_X2_product l D cs b b2) kX2_29 hP hD [] rfl (by decide) ⟨Nat.le_of_ble_eq_true rfl, Nat.le_of_ble_eq_true rfl⟩ rfl hl.1 rfl (Nat.le_of_ble_eq_true rfl) dX2_plus_33 ⟨Nat.le_of_ble_eq_true rfl, Nat.le_of_ble_eq_true rfl⟩) hP hD hS hA [] [0, 1] rfl rfl (by decide) (by decide) ?_
  clear hP hD hS
  try clear locs
  try clear H
  intro r_7 u_8 H locs hw_r_7 hP hD hS
  have hw_r_7 : r_7 = prF b b2 := hw_r_7
  refine W.widen (k := 0) (n := 0) (Nat.le_of_ble_eq_true rfl) (Nat.le_of_ble_eq_true rfl) ?_
  replace hP : va_P D vwCl [(h, .inr (2, [.long a, .long b])), (h2, .inr (2, [.long a2, .long b2]))] H := hP
  replace hD : va_D A [(h, .inr (2, [.long a, .long b])), (h2, .inr (2, [.long a2, .long b2]))] := hD
  refine xr (wr := [(h, .inr (2, [.long a, .long b])), (h2, .inr (2, [.long a2, .long b2]))]) (xS (As := [.long r_5, .long r_7]) (rest := []) C (c_X2_least_w l D cs r_5 r_7) kX2_35 hP hD [] rfl (by decide) ⟨Nat.le_of_ble_eq_true rfl, Nat.le_of_ble_eq_true rfl⟩ rfl hl.1 rfl (Nat.le_of_ble_eq_true rfl) dX2_plus_36 ⟨Nat.le_of_ble_eq_true rfl, Nat.le_of_ble_eq_true rfl⟩) hP hD hS hA [] [0, 1] rfl rfl (by decide) (by decide) ?_
  clear hP hD hS
  try clear locs
  try clear H
  intro u_10 r_9 H locs hw_r_9 hP hD hS
  obtain ⟨va_11, vb_12⟩ := u_10
  refine W.widen (k := 1) (n := 2) (Nat.le_of_ble_eq_true rfl) (Nat.le_of_ble_eq_true rfl) ?_
  replace hP : va_P D vwCl [(h, .inr (2, [.long a, .long b])), (h2, .inr (2, [.long a2, .long b2])), (r_9, .inr (2, [.long va_11, .long vb_12]))] H := hP
  replace hD : va_D A [(h, .inr (2, [.long a, .long b])), (h2, .inr (2, [.long a2, .long b2])), (r_9, .inr (2, [.long va_11, .long vb_12]))] := hD
  exact xretr C (Or.inl ⟨_, rfl⟩) (⟨va_11, vb_12⟩) trivial hP hD hS (Nat.le_of_ble_eq_true rfl) (Nat.le_of_ble_eq_true rfl) dX2_plus_39

set_option maxHeartbeats 4000000 in
set_option maxRecDepth 100000 in
theorem c_X2_less_w (l : Launch) (D : va_G) (cs : Nat → ClassId) (h h2 : Nat) (a b a2 b2 : Int64) : xMet l D cs yX2_less cX2_less 2 (some (.object "SampleHouse$Fraction")) ({ frames := 3, cells := 1, slots := 2, locals := 69 } : Room) [.ref h, .ref h2] [(h, .inr (2, [.long a, .long b])), (h2, .inr (2, [.long a2, .long b2]))] (xQr D (fun (u : Int64 × Int64) => match u with | (va, vb) => True) (fun (u : Int64 × Int64) (ra : Nat) => match u with | (va, vb) => [(h, .inr (2, [.long a, .long b])), (h2, .inr (2, [.long a2, .long b2])), (ra, .inr (2, [.long va, .long vb]))])) := by
  refine xMet.intro (by decide) (Nat.le_of_ble_eq_true rfl) ?_
  intro p e s m args below meth c A ls C hP hD hS hl
  have hx := C.1
  have hb := C.2.1
  have hz := C.2.2.2.2.1
  have hown := C.2.2.2.1
  have hA := C.2.2.2.2.2.2.2.2.2
  have hAO := C.2.2.2.2.2.2.2.2.1.2.2
  replace hl : lv_has ls 2 [(0, .ref h), (1, .ref h2)] := hl
  obtain ⟨H, hH⟩ : ∃ H, H = s.heap := ⟨_, rfl⟩
  replace hP : va_P D vwCl [(h, .inr (2, [.long a, .long b])), (h2, .inr (2, [.long a2, .long b2]))] H := by rw [hH]; exact hP
  replace hS : va_S A s.heap H [] := by rw [hH]; exact hS
  obtain ⟨locs, hlocs⟩ : ∃ z : List Loc, z = [] := ⟨_, rfl⟩
  rw [← hlocs] at hS
  suffices hW : W p l e ({ frames := 3, cells := 1, slots := 2, locals := 69 } : Room) s m args below meth c H locs 0 0 (MQ below ((xQr D (fun (u : Int64 × Int64) => match u with | (va, vb) => True) (fun (u : Int64 × Int64) (ra : Nat) => match u with | (va, vb) => [(h, .inr (2, [.long a, .long b])), (h2, .inr (2, [.long a2, .long b2])), (ra, .inr (2, [.long va, .long vb]))])) A) args s 1 2 A) (F0 m 0 ls []) by rw [hlocs, hH] at hW; exact hW
  clear hH hlocs
  refine lv_aload_n hx hb dX2_less_0 rfl (lv_at hl 0 rfl) ?_
  refine xget C hP 0 rfl rfl zuX2 0 (by decide) zw4_123 rfl dX2_less_1 ?_
  refine lv_aload_n hx hb dX2_less_4 rfl (lv_at hl 1 rfl) ?_
  refine xget C hP 1 rfl rfl zuX2 1 (by decide) zw4_125 rfl dX2_less_5 ?_
  refine xl (wr := [(h, .inr (2, [.long a, .long b])), (h2, .inr (2, [.long a2, .long b2]))]) (xS (As := [.long a, .long b2]) (rest := []) C (c_X2_product l D cs a b2) kX2_29 hP hD [] rfl (by decide) ⟨Nat.le_of_ble_eq_true rfl, Nat.le_of_ble_eq_true rfl⟩ rfl hl.1 rfl (Nat.le_of_ble_eq_true rfl) dX2_less_8 ⟨Nat.le_of_ble_eq_true rfl, Nat.le_of_ble_eq_true rfl⟩) hP hD hS hA [] [0, 1] rfl rfl (by decide) (by decide) ?_
  clear hP hD hS
  try clear locs
  try clear H
  intro r_1 u_2 H locs hw_r_1 hP hD hS
  have hw_r_1 : r_1 = prF a b2 := hw_r_1
  refine W.widen (k := 0) (n := 0) (Nat.le_of_ble_eq_true rfl) (Nat.le_of_ble_eq_true rfl) ?_
  replace hP : va_P D vwCl [(h, .inr (2, [.long a, .long b])), (h2, .inr (2, [.long a2, .long b2]))] H := hP
  replace hD : va_D A [(h, .inr (2, [.long a, .long b])), (h2, .inr (2, [.long a2, .long b2]))] := hD
  refine lv_aload_n hx hb dX2_less_11 rfl (lv_at hl 1 rfl) ?_
  refine xget C hP 1 rfl rfl zuX2 0 (by decide) zw4_123 rfl dX2_less_12 ?_
  refine lv_aload_n hx hb dX2_less_15 rfl (lv_at hl 0 rfl) ?_
  refine xget C hP 0 rfl rfl zuX2 1 (by decide) zw4_125 rfl dX2_less_16 ?_
  refine xl (wr := [(h, .inr (2, [.long a, .long b])), (h2, .inr (2, [.long a2, .long b2]))]) (xS (As := [.long a2, .long b]) (rest := [.long r_1]) C (c_X2_product l D cs a2 b) kX2_29 hP hD [] rfl (by decide) ⟨Nat.le_of_ble_eq_true rfl, Nat.le_of_ble_eq_true rfl⟩ rfl hl.1 rfl (Nat.le_of_ble_eq_true rfl) dX2_less_19 ⟨Nat.le_of_ble_eq_true rfl, Nat.le_of_ble_eq_true rfl⟩) hP hD hS hA [] [0, 1] rfl rfl (by decide) (by decide) ?_
  clear hP hD hS
  try clear locs
  try clear H
  intro r_3 u_4 H locs hw_r_3 hP hD hS
  have hw_r_3 : r_3 = prF a2 b := hw_r_3
  refine W.widen (k := 0) (n := 0) (Nat.le_of_ble_eq_true rfl) (Nat.le_of_ble_eq_true rfl) ?_
  replace hP : va_P D vwCl [(h, .inr (2, [.long a, .long b])), (h2, .inr (2, [.long a2, .long b2]))] H := hP
  replace hD : va_D A [(h, .inr (2, [.long a, .long b])), (h2, .inr (2, [.long a2, .long b2]))] := hD
  refine xl (wr := [(h, .inr (2, [.long a, .long b])), (h2, .inr (2, [.long a2, .long b2]))]) (xS (As := [.long r_1, .long r_3]) (rest := []) C (c_X2_difference l D cs r_1 r_3) kX2_39 hP hD [] rfl (by decide) ⟨Nat.le_of_ble_eq_true rfl, Nat.le_of_ble_eq_true rfl⟩ rfl hl.1 rfl (Nat.le_of_ble_eq_true rfl) dX2_less_22 ⟨Nat.le_of_ble_eq_true rfl, Nat.le_of_ble_eq_true rfl⟩) hP hD hS hA [] [0, 1] rfl rfl (by decide) (by decide) ?_
  clear hP hD hS
  try clear locs
  try clear H
  intro r_5 u_6 H locs hw_r_5 hP hD hS
  have hw_r_5 : r_5 = dfF r_1 r_3 := hw_r_5
  refine W.widen (k := 0) (n := 0) (Nat.le_of_ble_eq_true rfl) (Nat.le_of_ble_eq_true rfl) ?_
  replace hP : va_P D vwCl [(h, .inr (2, [.long a, .long b])), (h2, .inr (2, [.long a2, .long b2]))] H := hP
  replace hD : va_D A [(h, .inr (2, [.long a, .long b])), (h2, .inr (2, [.long a2, .long b2]))] := hD
  refine lv_aload_n hx hb dX2_less_25 rfl (lv_at hl 0 rfl) ?_
  refine xget C hP 0 rfl rfl zuX2 1 (by decide) zw4_125 rfl dX2_less_26 ?_
  refine lv_aload_n hx hb dX2_less_29 rfl (lv_at hl 1 rfl) ?_
  refine xget C hP 1 rfl rfl zuX2 1 (by decide) zw4_125 rfl dX2_less_30 ?_
  refine xl (wr := [(h, .inr (2, [.long a, .long b])), (h2, .inr (2, [.long a2, .long b2]))]) (xS (As := [.long b, .long b2]) (rest := [.long r_5]) C (c_X2_product l D cs b b2) kX2_29 hP hD [] rfl (by decide) ⟨Nat.le_of_ble_eq_true rfl, Nat.le_of_ble_eq_true rfl⟩ rfl hl.1 rfl (Nat.le_of_ble_eq_true rfl) dX2_less_33 ⟨Nat.le_of_ble_eq_true rfl, Nat.le_of_ble_eq_true rfl⟩) hP hD hS hA [] [0, 1] rfl rfl (by decide) (by decide) ?_
  clear hP hD hS
  try clear locs
  try clear H
  intro r_7 u_8 H locs hw_r_7 hP hD hS
  have hw_r_7 : r_7 = prF b b2 := hw_r_7
  refine W.widen (k := 0) (n := 0) (Nat.le_of_ble_eq_true rfl) (Nat.le_of_ble_eq_true rfl) ?_
  replace hP : va_P D vwCl [(h, .inr (2, [.long a, .long b])), (h2, .inr (2, [.long a2, .long b2]))] H := hP
  replace hD : va_D A [(h, .inr (2, [.long a, .long b])), (h2, .inr (2, [.long a2, .long b2]))] := hD
  refine xr (wr := [(h, .inr (2, [.long a, .long b])), (h2, .inr (2, [.long a2, .long b2]))]) (xS (As := [.long r_5, .long r_7]) (rest := []) C (c_X2_least_w l D cs r_5 r_7) kX2_35 hP hD [] rfl (by decide) ⟨Nat.le_of_ble_eq_true rfl, Nat.le_of_ble_eq_true rfl⟩ rfl hl.1 rfl (Nat.le_of_ble_eq_true rfl) dX2_less_36 ⟨Nat.le_of_ble_eq_true rfl, Nat.le_of_ble_eq_true rfl⟩) hP hD hS hA [] [0, 1] rfl rfl (by decide) (by decide) ?_
  clear hP hD hS
  try clear locs
  try clear H
  intro u_10 r_9 H locs hw_r_9 hP hD hS
  obtain ⟨va_11, vb_12⟩ := u_10
  refine W.widen (k := 1) (n := 2) (Nat.le_of_ble_eq_true rfl) (Nat.le_of_ble_eq_true rfl) ?_
  replace hP : va_P D vwCl [(h, .inr (2, [.long a, .long b])), (h2, .inr (2, [.long a2, .long b2])), (r_9, .inr (2, [.long va_11, .long vb_12]))] H := hP
  replace hD : va_D A [(h, .inr (2, [.long a, .long b])), (h2, .inr (2, [.long a2, .long b2])), (r_9, .inr (2, [.long va_11, .long vb_12]))] := hD
  exact xretr C (Or.inl ⟨_, rfl⟩) (⟨va_11, vb_12⟩) trivial hP hD hS (Nat.le_of_ble_eq_true rfl) (Nat.le_of_ble_eq_true rfl) dX2_less_39

set_option maxHeartbeats 4000000 in
set_option maxRecDepth 100000 in
theorem c_X2_times_w (l : Launch) (D : va_G) (cs : Nat → ClassId) (h h2 : Nat) (a b a2 b2 : Int64) : xMet l D cs yX2_times cX2_times 2 (some (.object "SampleHouse$Fraction")) ({ frames := 3, cells := 1, slots := 2, locals := 69 } : Room) [.ref h, .ref h2] [(h, .inr (2, [.long a, .long b])), (h2, .inr (2, [.long a2, .long b2]))] (xQr D (fun (u : Int64 × Int64) => match u with | (va, vb) => True) (fun (u : Int64 × Int64) (ra : Nat) => match u with | (va, vb) => [(h, .inr (2, [.long a, .long b])), (h2, .inr (2, [.long a2, .long b2])), (ra, .inr (2, [.long va, .long vb]))])) := by
  refine xMet.intro (by decide) (Nat.le_of_ble_eq_true rfl) ?_
  intro p e s m args below meth c A ls C hP hD hS hl
  have hx := C.1
  have hb := C.2.1
  have hz := C.2.2.2.2.1
  have hown := C.2.2.2.1
  have hA := C.2.2.2.2.2.2.2.2.2
  have hAO := C.2.2.2.2.2.2.2.2.1.2.2
  replace hl : lv_has ls 2 [(0, .ref h), (1, .ref h2)] := hl
  obtain ⟨H, hH⟩ : ∃ H, H = s.heap := ⟨_, rfl⟩
  replace hP : va_P D vwCl [(h, .inr (2, [.long a, .long b])), (h2, .inr (2, [.long a2, .long b2]))] H := by rw [hH]; exact hP
  replace hS : va_S A s.heap H [] := by rw [hH]; exact hS
  obtain ⟨locs, hlocs⟩ : ∃ z : List Loc, z = [] := ⟨_, rfl⟩
  rw [← hlocs] at hS
  suffices hW : W p l e ({ frames := 3, cells := 1, slots := 2, locals := 69 } : Room) s m args below meth c H locs 0 0 (MQ below ((xQr D (fun (u : Int64 × Int64) => match u with | (va, vb) => True) (fun (u : Int64 × Int64) (ra : Nat) => match u with | (va, vb) => [(h, .inr (2, [.long a, .long b])), (h2, .inr (2, [.long a2, .long b2])), (ra, .inr (2, [.long va, .long vb]))])) A) args s 1 2 A) (F0 m 0 ls []) by rw [hlocs, hH] at hW; exact hW
  clear hH hlocs
  refine lv_aload_n hx hb dX2_times_0 rfl (lv_at hl 0 rfl) ?_
  refine xget C hP 0 rfl rfl zuX2 0 (by decide) zw4_123 rfl dX2_times_1 ?_
  refine lv_aload_n hx hb dX2_times_4 rfl (lv_at hl 1 rfl) ?_
  refine xget C hP 1 rfl rfl zuX2 0 (by decide) zw4_123 rfl dX2_times_5 ?_
  refine xl (wr := [(h, .inr (2, [.long a, .long b])), (h2, .inr (2, [.long a2, .long b2]))]) (xS (As := [.long a, .long a2]) (rest := []) C (c_X2_product l D cs a a2) kX2_29 hP hD [] rfl (by decide) ⟨Nat.le_of_ble_eq_true rfl, Nat.le_of_ble_eq_true rfl⟩ rfl hl.1 rfl (Nat.le_of_ble_eq_true rfl) dX2_times_8 ⟨Nat.le_of_ble_eq_true rfl, Nat.le_of_ble_eq_true rfl⟩) hP hD hS hA [] [0, 1] rfl rfl (by decide) (by decide) ?_
  clear hP hD hS
  try clear locs
  try clear H
  intro r_1 u_2 H locs hw_r_1 hP hD hS
  have hw_r_1 : r_1 = prF a a2 := hw_r_1
  refine W.widen (k := 0) (n := 0) (Nat.le_of_ble_eq_true rfl) (Nat.le_of_ble_eq_true rfl) ?_
  replace hP : va_P D vwCl [(h, .inr (2, [.long a, .long b])), (h2, .inr (2, [.long a2, .long b2]))] H := hP
  replace hD : va_D A [(h, .inr (2, [.long a, .long b])), (h2, .inr (2, [.long a2, .long b2]))] := hD
  refine lv_aload_n hx hb dX2_times_11 rfl (lv_at hl 0 rfl) ?_
  refine xget C hP 0 rfl rfl zuX2 1 (by decide) zw4_125 rfl dX2_times_12 ?_
  refine lv_aload_n hx hb dX2_times_15 rfl (lv_at hl 1 rfl) ?_
  refine xget C hP 1 rfl rfl zuX2 1 (by decide) zw4_125 rfl dX2_times_16 ?_
  refine xl (wr := [(h, .inr (2, [.long a, .long b])), (h2, .inr (2, [.long a2, .long b2]))]) (xS (As := [.long b, .long b2]) (rest := [.long r_1]) C (c_X2_product l D cs b b2) kX2_29 hP hD [] rfl (by decide) ⟨Nat.le_of_ble_eq_true rfl, Nat.le_of_ble_eq_true rfl⟩ rfl hl.1 rfl (Nat.le_of_ble_eq_true rfl) dX2_times_19 ⟨Nat.le_of_ble_eq_true rfl, Nat.le_of_ble_eq_true rfl⟩) hP hD hS hA [] [0, 1] rfl rfl (by decide) (by decide) ?_
  clear hP hD hS
  try clear locs
  try clear H
  intro r_3 u_4 H locs hw_r_3 hP hD hS
  have hw_r_3 : r_3 = prF b b2 := hw_r_3
  refine W.widen (k := 0) (n := 0) (Nat.le_of_ble_eq_true rfl) (Nat.le_of_ble_eq_true rfl) ?_
  replace hP : va_P D vwCl [(h, .inr (2, [.long a, .long b])), (h2, .inr (2, [.long a2, .long b2]))] H := hP
  replace hD : va_D A [(h, .inr (2, [.long a, .long b])), (h2, .inr (2, [.long a2, .long b2]))] := hD
  refine xr (wr := [(h, .inr (2, [.long a, .long b])), (h2, .inr (2, [.long a2, .long b2]))]) (xS (As := [.long r_1, .long r_3]) (rest := []) C (c_X2_least_w l D cs r_1 r_3) kX2_35 hP hD [] rfl (by decide) ⟨Nat.le_of_ble_eq_true rfl, Nat.le_of_ble_eq_true rfl⟩ rfl hl.1 rfl (Nat.le_of_ble_eq_true rfl) dX2_times_22 ⟨Nat.le_of_ble_eq_true rfl, Nat.le_of_ble_eq_true rfl⟩) hP hD hS hA [] [0, 1] rfl rfl (by decide) (by decide) ?_
  clear hP hD hS
  try clear locs
  try clear H
  intro u_6 r_5 H locs hw_r_5 hP hD hS
  obtain ⟨va_7, vb_8⟩ := u_6
  refine W.widen (k := 1) (n := 2) (Nat.le_of_ble_eq_true rfl) (Nat.le_of_ble_eq_true rfl) ?_
  replace hP : va_P D vwCl [(h, .inr (2, [.long a, .long b])), (h2, .inr (2, [.long a2, .long b2])), (r_5, .inr (2, [.long va_7, .long vb_8]))] H := hP
  replace hD : va_D A [(h, .inr (2, [.long a, .long b])), (h2, .inr (2, [.long a2, .long b2])), (r_5, .inr (2, [.long va_7, .long vb_8]))] := hD
  exact xretr C (Or.inl ⟨_, rfl⟩) (⟨va_7, vb_8⟩) trivial hP hD hS (Nat.le_of_ble_eq_true rfl) (Nat.le_of_ble_eq_true rfl) dX2_times_25

set_option maxHeartbeats 4000000 in
set_option maxRecDepth 100000 in
theorem c_X2_by_w (l : Launch) (D : va_G) (cs : Nat → ClassId) (h h2 : Nat) (a b a2 b2 : Int64) : xMet l D cs yX2_by cX2_by 2 (some (.object "SampleHouse$Fraction")) ({ frames := 3, cells := 1, slots := 2, locals := 69 } : Room) [.ref h, .ref h2] [(h, .inr (2, [.long a, .long b])), (h2, .inr (2, [.long a2, .long b2]))] (xQr D (fun (u : Int64 × Int64) => match u with | (va, vb) => True) (fun (u : Int64 × Int64) (ra : Nat) => match u with | (va, vb) => [(h, .inr (2, [.long a, .long b])), (h2, .inr (2, [.long a2, .long b2])), (ra, .inr (2, [.long va, .long vb]))])) := by
  refine xMet.intro (by decide) (Nat.le_of_ble_eq_true rfl) ?_
  intro p e s m args below meth c A ls C hP hD hS hl
  have hx := C.1
  have hb := C.2.1
  have hz := C.2.2.2.2.1
  have hown := C.2.2.2.1
  have hA := C.2.2.2.2.2.2.2.2.2
  have hAO := C.2.2.2.2.2.2.2.2.1.2.2
  replace hl : lv_has ls 2 [(0, .ref h), (1, .ref h2)] := hl
  obtain ⟨H, hH⟩ : ∃ H, H = s.heap := ⟨_, rfl⟩
  replace hP : va_P D vwCl [(h, .inr (2, [.long a, .long b])), (h2, .inr (2, [.long a2, .long b2]))] H := by rw [hH]; exact hP
  replace hS : va_S A s.heap H [] := by rw [hH]; exact hS
  obtain ⟨locs, hlocs⟩ : ∃ z : List Loc, z = [] := ⟨_, rfl⟩
  rw [← hlocs] at hS
  suffices hW : W p l e ({ frames := 3, cells := 1, slots := 2, locals := 69 } : Room) s m args below meth c H locs 0 0 (MQ below ((xQr D (fun (u : Int64 × Int64) => match u with | (va, vb) => True) (fun (u : Int64 × Int64) (ra : Nat) => match u with | (va, vb) => [(h, .inr (2, [.long a, .long b])), (h2, .inr (2, [.long a2, .long b2])), (ra, .inr (2, [.long va, .long vb]))])) A) args s 1 2 A) (F0 m 0 ls []) by rw [hlocs, hH] at hW; exact hW
  clear hH hlocs
  refine lv_aload_n hx hb dX2_by_0 rfl (lv_at hl 0 rfl) ?_
  refine xget C hP 0 rfl rfl zuX2 0 (by decide) zw4_123 rfl dX2_by_1 ?_
  refine lv_aload_n hx hb dX2_by_4 rfl (lv_at hl 1 rfl) ?_
  refine xget C hP 1 rfl rfl zuX2 1 (by decide) zw4_125 rfl dX2_by_5 ?_
  refine xl (wr := [(h, .inr (2, [.long a, .long b])), (h2, .inr (2, [.long a2, .long b2]))]) (xS (As := [.long a, .long b2]) (rest := []) C (c_X2_product l D cs a b2) kX2_29 hP hD [] rfl (by decide) ⟨Nat.le_of_ble_eq_true rfl, Nat.le_of_ble_eq_true rfl⟩ rfl hl.1 rfl (Nat.le_of_ble_eq_true rfl) dX2_by_8 ⟨Nat.le_of_ble_eq_true rfl, Nat.le_of_ble_eq_true rfl⟩) hP hD hS hA [] [0, 1] rfl rfl (by decide) (by decide) ?_
  clear hP hD hS
  try clear locs
  try clear H
  intro r_1 u_2 H locs hw_r_1 hP hD hS
  have hw_r_1 : r_1 = prF a b2 := hw_r_1
  refine W.widen (k := 0) (n := 0) (Nat.le_of_ble_eq_true rfl) (Nat.le_of_ble_eq_true rfl) ?_
  replace hP : va_P D vwCl [(h, .inr (2, [.long a, .long b])), (h2, .inr (2, [.long a2, .long b2]))] H := hP
  replace hD : va_D A [(h, .inr (2, [.long a, .long b])), (h2, .inr (2, [.long a2, .long b2]))] := hD
  refine lv_aload_n hx hb dX2_by_11 rfl (lv_at hl 0 rfl) ?_
  refine xget C hP 0 rfl rfl zuX2 1 (by decide) zw4_125 rfl dX2_by_12 ?_
  refine lv_aload_n hx hb dX2_by_15 rfl (lv_at hl 1 rfl) ?_
  refine xget C hP 1 rfl rfl zuX2 0 (by decide) zw4_123 rfl dX2_by_16 ?_
  refine xl (wr := [(h, .inr (2, [.long a, .long b])), (h2, .inr (2, [.long a2, .long b2]))]) (xS (As := [.long b, .long a2]) (rest := [.long r_1]) C (c_X2_product l D cs b a2) kX2_29 hP hD [] rfl (by decide) ⟨Nat.le_of_ble_eq_true rfl, Nat.le_of_ble_eq_true rfl⟩ rfl hl.1 rfl (Nat.le_of_ble_eq_true rfl) dX2_by_19 ⟨Nat.le_of_ble_eq_true rfl, Nat.le_of_ble_eq_true rfl⟩) hP hD hS hA [] [0, 1] rfl rfl (by decide) (by decide) ?_
  clear hP hD hS
  try clear locs
  try clear H
  intro r_3 u_4 H locs hw_r_3 hP hD hS
  have hw_r_3 : r_3 = prF b a2 := hw_r_3
  refine W.widen (k := 0) (n := 0) (Nat.le_of_ble_eq_true rfl) (Nat.le_of_ble_eq_true rfl) ?_
  replace hP : va_P D vwCl [(h, .inr (2, [.long a, .long b])), (h2, .inr (2, [.long a2, .long b2]))] H := hP
  replace hD : va_D A [(h, .inr (2, [.long a, .long b])), (h2, .inr (2, [.long a2, .long b2]))] := hD
  refine xr (wr := [(h, .inr (2, [.long a, .long b])), (h2, .inr (2, [.long a2, .long b2]))]) (xS (As := [.long r_1, .long r_3]) (rest := []) C (c_X2_least_w l D cs r_1 r_3) kX2_35 hP hD [] rfl (by decide) ⟨Nat.le_of_ble_eq_true rfl, Nat.le_of_ble_eq_true rfl⟩ rfl hl.1 rfl (Nat.le_of_ble_eq_true rfl) dX2_by_22 ⟨Nat.le_of_ble_eq_true rfl, Nat.le_of_ble_eq_true rfl⟩) hP hD hS hA [] [0, 1] rfl rfl (by decide) (by decide) ?_
  clear hP hD hS
  try clear locs
  try clear H
  intro u_6 r_5 H locs hw_r_5 hP hD hS
  obtain ⟨va_7, vb_8⟩ := u_6
  refine W.widen (k := 1) (n := 2) (Nat.le_of_ble_eq_true rfl) (Nat.le_of_ble_eq_true rfl) ?_
  replace hP : va_P D vwCl [(h, .inr (2, [.long a, .long b])), (h2, .inr (2, [.long a2, .long b2])), (r_5, .inr (2, [.long va_7, .long vb_8]))] H := hP
  replace hD : va_D A [(h, .inr (2, [.long a, .long b])), (h2, .inr (2, [.long a2, .long b2])), (r_5, .inr (2, [.long va_7, .long vb_8]))] := hD
  exact xretr C (Or.inl ⟨_, rfl⟩) (⟨va_7, vb_8⟩) trivial hP hD hS (Nat.le_of_ble_eq_true rfl) (Nat.le_of_ble_eq_true rfl) dX2_by_25
