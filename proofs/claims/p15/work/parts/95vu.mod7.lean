set_option maxHeartbeats 4000000 in
set_option maxRecDepth 100000 in
theorem c_X12_run_f (l : Launch) (D : va_G) (cs : Nat → ClassId) (hm ms mkp mtr mas mso mon mot man mst msm mtb mti mfr mbn mbs mde maa mab mba mbb : Nat) (n k al be km en : Nat) (ea pr nq po th xd sF sN sS ig : Int32) (xa xb : Int64) (f : Nat → Int32) (g : Nat → Int32) (qq : Nat → Int32) (x sd : Int32) (hn : 2 ≤ n ∧ n ≤ 8) (hs : colP f) (hk : keptP g) (hkm : km ≤ 8) (hkn : k < n) (hal : al ≤ 8) (hbe : 1 ≤ be ∧ be ≤ 15) (hpr : pr = 0 ∨ pr = nI 1 ∨ pr = nI 2) (hrow : ∀ j, j < 8 → ∃ v, rowU f j v ∧ okU be v) : xMet l D cs yX12_run cX12_run 7 (some .int) ({ frames := 3, cells := 0, slots := 0, locals := 71 } : Room) [.ref hm, .int x, .int sd] [(hm, .inr (12, [.ref ms, .ref mkp, .int (nI km), .ref mtr, .int (nI n), .int (nI k), .int (nI al), .int (nI be), .int ea, .int pr, .ref mas, .int nq, .int po, .int (nI en), .ref mso, .ref mon, .ref mot, .ref man, .int th, .int xd, .ref mst, .ref msm, .ref mtb, .ref mti, .ref mfr, .ref mbn, .ref mbs, .ref mde, .int sF, .int sN, .int sS, .int ig, .long xa, .long xb, .ref maa, .ref mab, .ref mba, .ref mbb])), (ms, .inl (cs 0, 288, .inl f)), (mkp, .inl (cs 0, 2304, .inl g)), (mas, .inl (cs 0, 8, .inl qq))] (xQi D (fun (r : Int32) (u : Nat × (Nat → Int32) × (Nat → Int32) × Int32 × Int32 × (Nat → Int32)) => match u with | (kmz, fz, gz, nqz, xdz, qz) => (colP fz ∧ keptP gz ∧ kmz ≤ 8) ∧ (∀ j, j < 8 → ∃ v, rowU fz j v ∧ okU be v) ∧ ((∃ nm, nm ≤ 300 ∧ x = nI nm ∧ ¬ x < nI 1 ∧ runM n k al be pr nm (sd, f, qq, nq, nI 0) (xdz, fz, qz, nqz, r) ∧ kpdP km f g kmz gz) ∨ (¬ (¬ x < nI 1 ∧ x ≤ nI 300) ∧ r = -1 ∧ (fz = f ∧ gz = g ∧ kmz = km) ∧ qz = qq ∧ nqz = nq ∧ xdz = xd))) (fun (u : Nat × (Nat → Int32) × (Nat → Int32) × Int32 × Int32 × (Nat → Int32)) => match u with | (kmz, fz, gz, nqz, xdz, qz) => [(hm, .inr (12, [.ref ms, .ref mkp, .int (nI kmz), .ref mtr, .int (nI n), .int (nI k), .int (nI al), .int (nI be), .int ea, .int pr, .ref mas, .int nqz, .int po, .int (nI en), .ref mso, .ref mon, .ref mot, .ref man, .int (nI 0), .int xdz, .ref mst, .ref msm, .ref mtb, .ref mti, .ref mfr, .ref mbn, .ref mbs, .ref mde, .int sF, .int sN, .int sS, .int ig, .long xa, .long xb, .ref maa, .ref mab, .ref mba, .ref mbb])), (ms, .inl (cs 0, 288, .inl fz)), (mkp, .inl (cs 0, 2304, .inl gz)), (mas, .inl (cs 0, 8, .inl qz))])) := by
  refine xMet.intro (by decide) (Nat.le_of_ble_eq_true rfl) ?_
  intro p e s m args below meth c A ls C hP hD hS hl
  have hx := C.1
  have hb := C.2.1
  have hz := C.2.2.2.2.1
  have hown := C.2.2.2.1
  have hA := C.2.2.2.2.2.2.2.2.2
  have hAO := C.2.2.2.2.2.2.2.2.1.2.2
  replace hl : lv_has ls 7 [(0, .ref hm), (1, .int x), (2, .int sd)] := hl
  obtain ⟨H, hH⟩ : ∃ H, H = s.heap := ⟨_, rfl⟩
  replace hP : va_P D vwCl [(hm, .inr (12, [.ref ms, .ref mkp, .int (nI km), .ref mtr, .int (nI n), .int (nI k), .int (nI al), .int (nI be), .int ea, .int pr, .ref mas, .int nq, .int po, .int (nI en), .ref mso, .ref mon, .ref mot, .ref man, .int th, .int xd, .ref mst, .ref msm, .ref mtb, .ref mti, .ref mfr, .ref mbn, .ref mbs, .ref mde, .int sF, .int sN, .int sS, .int ig, .long xa, .long xb, .ref maa, .ref mab, .ref mba, .ref mbb])), (ms, .inl (cs 0, 288, .inl f)), (mkp, .inl (cs 0, 2304, .inl g)), (mas, .inl (cs 0, 8, .inl qq))] H := by rw [hH]; exact hP
  replace hS : va_S A s.heap H [] := by rw [hH]; exact hS
  obtain ⟨locs, hlocs⟩ : ∃ z : List Loc, z = [] := ⟨_, rfl⟩
  rw [← hlocs] at hS
  suffices hW : W p l e ({ frames := 3, cells := 0, slots := 0, locals := 71 } : Room) s m args below meth c H locs 0 0 (MQ below ((xQi D (fun (r : Int32) (u : Nat × (Nat → Int32) × (Nat → Int32) × Int32 × Int32 × (Nat → Int32)) => match u with | (kmz, fz, gz, nqz, xdz, qz) => (colP fz ∧ keptP gz ∧ kmz ≤ 8) ∧ (∀ j, j < 8 → ∃ v, rowU fz j v ∧ okU be v) ∧ ((∃ nm, nm ≤ 300 ∧ x = nI nm ∧ ¬ x < nI 1 ∧ runM n k al be pr nm (sd, f, qq, nq, nI 0) (xdz, fz, qz, nqz, r) ∧ kpdP km f g kmz gz) ∨ (¬ (¬ x < nI 1 ∧ x ≤ nI 300) ∧ r = -1 ∧ (fz = f ∧ gz = g ∧ kmz = km) ∧ qz = qq ∧ nqz = nq ∧ xdz = xd))) (fun (u : Nat × (Nat → Int32) × (Nat → Int32) × Int32 × Int32 × (Nat → Int32)) => match u with | (kmz, fz, gz, nqz, xdz, qz) => [(hm, .inr (12, [.ref ms, .ref mkp, .int (nI kmz), .ref mtr, .int (nI n), .int (nI k), .int (nI al), .int (nI be), .int ea, .int pr, .ref mas, .int nqz, .int po, .int (nI en), .ref mso, .ref mon, .ref mot, .ref man, .int (nI 0), .int xdz, .ref mst, .ref msm, .ref mtb, .ref mti, .ref mfr, .ref mbn, .ref mbs, .ref mde, .int sF, .int sN, .int sS, .int ig, .long xa, .long xb, .ref maa, .ref mab, .ref mba, .ref mbb])), (ms, .inl (cs 0, 288, .inl fz)), (mkp, .inl (cs 0, 2304, .inl gz)), (mas, .inl (cs 0, 8, .inl qz))])) A) args s 0 0 A) (F0 m 0 ls []) by rw [hlocs, hH] at hW; exact hW
  clear hH hlocs
  refine lv_aload_n hx hb dX12_run_0 rfl (lv_at hl 0 rfl) ?_
  refine lv_iconst (v := nI 0) hx hb dX12_run_1 (by decide) ?_
  refine xput C hP hD hS 0 rfl rfl zuX12 tyX12 tyX12_ok nmX12 18 (by decide) zw5_231 rfl rfl rfl (Nat.le_of_ble_eq_true rfl) dX12_run_2 ?_
  clear hP hD hS
  try clear locs
  try clear H
  intro H locs hP hD hS
  replace hP : va_P D vwCl [(hm, .inr (12, [.ref ms, .ref mkp, .int (nI km), .ref mtr, .int (nI n), .int (nI k), .int (nI al), .int (nI be), .int ea, .int pr, .ref mas, .int nq, .int po, .int (nI en), .ref mso, .ref mon, .ref mot, .ref man, .int (nI 0), .int xd, .ref mst, .ref msm, .ref mtb, .ref mti, .ref mfr, .ref mbn, .ref mbs, .ref mde, .int sF, .int sN, .int sS, .int ig, .long xa, .long xb, .ref maa, .ref mab, .ref mba, .ref mbb])), (ms, .inl (cs 0, 288, .inl f)), (mkp, .inl (cs 0, 2304, .inl g)), (mas, .inl (cs 0, 8, .inl qq))] H := hP
  replace hD : va_D A [(hm, .inr (12, [.ref ms, .ref mkp, .int (nI km), .ref mtr, .int (nI n), .int (nI k), .int (nI al), .int (nI be), .int ea, .int pr, .ref mas, .int nq, .int po, .int (nI en), .ref mso, .ref mon, .ref mot, .ref man, .int (nI 0), .int xd, .ref mst, .ref msm, .ref mtb, .ref mti, .ref mfr, .ref mbn, .ref mbs, .ref mde, .int sF, .int sN, .int sS, .int ig, .long xa, .long xb, .ref maa, .ref mab, .ref mba, .ref mbb])), (ms, .inl (cs 0, 288, .inl f)), (mkp, .inl (cs 0, 2304, .inl g)), (mas, .inl (cs 0, 8, .inl qq))] := hD
  refine lv_iload_n hx hb dX12_run_5 rfl (lv_at hl 1 rfl) ?_
  refine lv_iconst (v := nI 1) hx hb dX12_run_6 (by decide) ?_
  refine lv_sipush (v := nI 300) hx hb dX12_run_7 (by decide) ?_
  refine xi (wr := [(hm, .inr (12, [.ref ms, .ref mkp, .int (nI km), .ref mtr, .int (nI n), .int (nI k), .int (nI al), .int (nI be), .int ea, .int pr, .ref mas, .int nq, .int po, .int (nI en), .ref mso, .ref mon, .ref mot, .ref man, .int (nI 0), .int xd, .ref mst, .ref msm, .ref mtb, .ref mti, .ref mfr, .ref mbn, .ref mbs, .ref mde, .int sF, .int sN, .int sS, .int ig, .long xa, .long xb, .ref maa, .ref mab, .ref mba, .ref mbb])), (ms, .inl (cs 0, 288, .inl f)), (mkp, .inl (cs 0, 2304, .inl g)), (mas, .inl (cs 0, 8, .inl qq))]) (xS (As := [.int x, .int (nI 1), .int (nI 300)]) (rest := []) C (c_X12_within l D cs x (nI 1) (nI 300)) kX12_116 hP hD [] rfl (by decide) ⟨Nat.le_of_ble_eq_true rfl, Nat.le_of_ble_eq_true rfl⟩ rfl hl.1 rfl (Nat.le_of_ble_eq_true rfl) dX12_run_10 ⟨Nat.le_of_ble_eq_true rfl, Nat.le_of_ble_eq_true rfl⟩) hP hD hS hA [] [0, 1, 2, 3] rfl rfl (by decide) (by decide) ?_
  clear hP hD hS
  try clear locs
  try clear H
  intro r_1 u_2 H locs hw_r_1 hP hD hS
  have hw_r_1 : PQ (¬ x < (nI 1) ∧ x ≤ (nI 300)) r_1 (nI 1) (nI 0) := hw_r_1
  refine W.widen (k := 0) (n := 0) (Nat.le_of_ble_eq_true rfl) (Nat.le_of_ble_eq_true rfl) ?_
  replace hP : va_P D vwCl [(hm, .inr (12, [.ref ms, .ref mkp, .int (nI km), .ref mtr, .int (nI n), .int (nI k), .int (nI al), .int (nI be), .int ea, .int pr, .ref mas, .int nq, .int po, .int (nI en), .ref mso, .ref mon, .ref mot, .ref man, .int (nI 0), .int xd, .ref mst, .ref msm, .ref mtb, .ref mti, .ref mfr, .ref mbn, .ref mbs, .ref mde, .int sF, .int sN, .int sS, .int ig, .long xa, .long xb, .ref maa, .ref mab, .ref mba, .ref mbb])), (ms, .inl (cs 0, 288, .inl f)), (mkp, .inl (cs 0, 2304, .inl g)), (mas, .inl (cs 0, 8, .inl qq))] H := hP
  replace hD : va_D A [(hm, .inr (12, [.ref ms, .ref mkp, .int (nI km), .ref mtr, .int (nI n), .int (nI k), .int (nI al), .int (nI be), .int ea, .int pr, .ref mas, .int nq, .int po, .int (nI en), .ref mso, .ref mon, .ref mot, .ref man, .int (nI 0), .int xd, .ref mst, .ref msm, .ref mtb, .ref mti, .ref mfr, .ref mbn, .ref mbs, .ref mde, .int sF, .int sN, .int sS, .int ig, .long xa, .long xb, .ref maa, .ref mab, .ref mba, .ref mbb])), (ms, .inl (cs 0, 288, .inl f)), (mkp, .inl (cs 0, 2304, .inl g)), (mas, .inl (cs 0, 8, .inl qq))] := hD
  refine lv_if_ne (tgt := 18) hx hb dX12_run_13 (by decide) (fun c_3 => ?_) (fun c_3 => ?_)
  · -- 13 t
    have hyx := PQ.yes hw_r_1 c_3
    obtain ⟨nn, h_nn, rfl⟩ : ∃ j : Nat, j ≤ 300 ∧ x = nI j := nI_of2 (M := nI 300) (by decide) (fun q => hyx.1 (Int32.lt_trans q (by decide))) hyx.2
    replace hP : va_P D vwCl [(hm, .inr (12, [.ref ms, .ref mkp, .int (nI km), .ref mtr, .int (nI n), .int (nI k), .int (nI al), .int (nI be), .int ea, .int pr, .ref mas, .int nq, .int po, .int (nI en), .ref mso, .ref mon, .ref mot, .ref man, .int (nI 0), .int xd, .ref mst, .ref msm, .ref mtb, .ref mti, .ref mfr, .ref mbn, .ref mbs, .ref mde, .int sF, .int sN, .int sS, .int ig, .long xa, .long xb, .ref maa, .ref mab, .ref mba, .ref mbb])), (ms, .inl (cs 0, 288, .inl f)), (mkp, .inl (cs 0, 2304, .inl g)), (mas, .inl (cs 0, 8, .inl qq))] H := hP
    replace hD : va_D A [(hm, .inr (12, [.ref ms, .ref mkp, .int (nI km), .ref mtr, .int (nI n), .int (nI k), .int (nI al), .int (nI be), .int ea, .int pr, .ref mas, .int nq, .int po, .int (nI en), .ref mso, .ref mon, .ref mot, .ref man, .int (nI 0), .int xd, .ref mst, .ref msm, .ref mtb, .ref mti, .ref mfr, .ref mbn, .ref mbs, .ref mde, .int sF, .int sN, .int sS, .int ig, .long xa, .long xb, .ref maa, .ref mab, .ref mba, .ref mbb])), (ms, .inl (cs 0, 288, .inl f)), (mkp, .inl (cs 0, 2304, .inl g)), (mas, .inl (cs 0, 8, .inl qq))] := hD
    refine lv_aload_n hx hb dX12_run_18 rfl (lv_at hl 0 rfl) ?_
    refine xv (wr := [(mas, .inl (cs 0, 8, .inl qq))]) (xV (As := []) (rest := []) C (c_X12_keeps_f l D cs hm ms mkp mtr mas mso mon mot man mst msm mtb mti mfr mbn mbs mde maa mab mba mbb n k al be km en ea pr nq po (nI 0) xd sF sN sS ig xa xb f g hs hk hkm) kX12_124 hP hD [0, 1, 2] rfl (by decide) 0 rfl rfl rfl ⟨Nat.le_of_ble_eq_true rfl, Nat.le_of_ble_eq_true rfl⟩ rfl hl.1 rfl (Nat.le_of_ble_eq_true rfl) dX12_run_19 ⟨Nat.le_of_ble_eq_true rfl, Nat.le_of_ble_eq_true rfl⟩) hP hD hS hA [0, 1, 2] [3] rfl rfl (by decide) (by decide) ?_
    clear hP hD hS
    try clear locs
    try clear H
    intro u_5 H locs hw_r_4 hP hD hS
    obtain ⟨kmz_6, gz_7⟩ := u_5
    have hw_r_4 : (keptP gz_7 ∧ kmz_6 ≤ 8) ∧ kpdP km f g kmz_6 gz_7 := hw_r_4
    refine W.widen (k := 0) (n := 0) (Nat.le_of_ble_eq_true rfl) (Nat.le_of_ble_eq_true rfl) ?_
    replace hP : va_P D vwCl [(mas, .inl (cs 0, 8, .inl qq)), (hm, .inr (12, [.ref ms, .ref mkp, .int (nI kmz_6), .ref mtr, .int (nI n), .int (nI k), .int (nI al), .int (nI be), .int ea, .int pr, .ref mas, .int nq, .int po, .int (nI en), .ref mso, .ref mon, .ref mot, .ref man, .int (nI 0), .int xd, .ref mst, .ref msm, .ref mtb, .ref mti, .ref mfr, .ref mbn, .ref mbs, .ref mde, .int sF, .int sN, .int sS, .int ig, .long xa, .long xb, .ref maa, .ref mab, .ref mba, .ref mbb])), (ms, .inl (cs 0, 288, .inl f)), (mkp, .inl (cs 0, 2304, .inl gz_7))] H := hP
    replace hD : va_D A [(mas, .inl (cs 0, 8, .inl qq)), (hm, .inr (12, [.ref ms, .ref mkp, .int (nI kmz_6), .ref mtr, .int (nI n), .int (nI k), .int (nI al), .int (nI be), .int ea, .int pr, .ref mas, .int nq, .int po, .int (nI en), .ref mso, .ref mon, .ref mot, .ref man, .int (nI 0), .int xd, .ref mst, .ref msm, .ref mtb, .ref mti, .ref mfr, .ref mbn, .ref mbs, .ref mde, .int sF, .int sN, .int sS, .int ig, .long xa, .long xb, .ref maa, .ref mab, .ref mba, .ref mbb])), (ms, .inl (cs 0, 288, .inl f)), (mkp, .inl (cs 0, 2304, .inl gz_7))] := hD
    refine lv_aload_n hx hb dX12_run_22 rfl (lv_at hl 0 rfl) ?_
    refine lv_iload_n hx hb dX12_run_23 rfl (lv_at hl 2 rfl) ?_
    refine xput C hP hD hS 1 rfl rfl zuX12 tyX12 tyX12_ok nmX12 19 (by decide) zw5_232 rfl rfl rfl (Nat.le_of_ble_eq_true rfl) dX12_run_24 ?_
    clear hP hD hS
    try clear locs
    try clear H
    intro H locs hP hD hS
    replace hP : va_P D vwCl [(mas, .inl (cs 0, 8, .inl qq)), (hm, .inr (12, [.ref ms, .ref mkp, .int (nI kmz_6), .ref mtr, .int (nI n), .int (nI k), .int (nI al), .int (nI be), .int ea, .int pr, .ref mas, .int nq, .int po, .int (nI en), .ref mso, .ref mon, .ref mot, .ref man, .int (nI 0), .int sd, .ref mst, .ref msm, .ref mtb, .ref mti, .ref mfr, .ref mbn, .ref mbs, .ref mde, .int sF, .int sN, .int sS, .int ig, .long xa, .long xb, .ref maa, .ref mab, .ref mba, .ref mbb])), (ms, .inl (cs 0, 288, .inl f)), (mkp, .inl (cs 0, 2304, .inl gz_7))] H := hP
    replace hD : va_D A [(mas, .inl (cs 0, 8, .inl qq)), (hm, .inr (12, [.ref ms, .ref mkp, .int (nI kmz_6), .ref mtr, .int (nI n), .int (nI k), .int (nI al), .int (nI be), .int ea, .int pr, .ref mas, .int nq, .int po, .int (nI en), .ref mso, .ref mon, .ref mot, .ref man, .int (nI 0), .int sd, .ref mst, .ref msm, .ref mtb, .ref mti, .ref mfr, .ref mbn, .ref mbs, .ref mde, .int sF, .int sN, .int sS, .int ig, .long xa, .long xb, .ref maa, .ref mab, .ref mba, .ref mbb])), (ms, .inl (cs 0, 288, .inl f)), (mkp, .inl (cs 0, 2304, .inl gz_7))] := hD
    refine lv_iconst (v := nI 0) hx hb dX12_run_27 (by decide) ?_
    refine lv_istore_n (lv' := [(3, .int (nI 0)), (0, .ref hm), (1, .int (nI nn)), (2, .int sd)]) hx hb dX12_run_28 rfl hl (by decide) rfl ?_
    clear hl
    try clear ls
    intro ls hl
    refine lv_iconst (v := nI 0) hx hb dX12_run_29 (by decide) ?_
    refine lv_istore (lv' := [(4, .int (nI 0)), (3, .int (nI 0)), (0, .ref hm), (1, .int (nI nn)), (2, .int sd)]) hx hb dX12_run_30 hl (by decide) rfl ?_
    clear hl
    try clear ls
    intro ls hl
    have loop_8 : ∀ (n_loop_8 : Nat) (o : Nat) (f9 : Nat → Int32) (q9 : Nat → Int32) (n9 : Int32) (d9 : Int32) (c9 : Int32), (o ≤ nn) → (colP f9) → (∀ j, j < 8 → ∃ v, rowU f9 j v ∧ okU be v) → (runM n k al be pr o (sd, f, qq, nq, nI 0) (d9, f9, q9, n9, c9)) → nn - o < n_loop_8 → ∀ (H : Heap) (locs : List Loc) (ls : Array Slot), va_P D vwCl [(mas, .inl (cs 0, 8, .inl q9)), (hm, .inr (12, [.ref ms, .ref mkp, .int (nI kmz_6), .ref mtr, .int (nI n), .int (nI k), .int (nI al), .int (nI be), .int ea, .int pr, .ref mas, .int n9, .int po, .int (nI en), .ref mso, .ref mon, .ref mot, .ref man, .int (nI 0), .int d9, .ref mst, .ref msm, .ref mtb, .ref mti, .ref mfr, .ref mbn, .ref mbs, .ref mde, .int sF, .int sN, .int sS, .int ig, .long xa, .long xb, .ref maa, .ref mab, .ref mba, .ref mbb])), (ms, .inl (cs 0, 288, .inl f9)), (mkp, .inl (cs 0, 2304, .inl gz_7))] H → va_D A [(mas, .inl (cs 0, 8, .inl q9)), (hm, .inr (12, [.ref ms, .ref mkp, .int (nI kmz_6), .ref mtr, .int (nI n), .int (nI k), .int (nI al), .int (nI be), .int ea, .int pr, .ref mas, .int n9, .int po, .int (nI en), .ref mso, .ref mon, .ref mot, .ref man, .int (nI 0), .int d9, .ref mst, .ref msm, .ref mtb, .ref mti, .ref mfr, .ref mbn, .ref mbs, .ref mde, .int sF, .int sN, .int sS, .int ig, .long xa, .long xb, .ref maa, .ref mab, .ref mba, .ref mbb])), (ms, .inl (cs 0, 288, .inl f9)), (mkp, .inl (cs 0, 2304, .inl gz_7))] → va_S A s.heap H locs → lv_has ls 7 [(4, .int (nI o)), (3, .int c9), (0, .ref hm), (1, .int (nI nn)), (2, .int sd)] → W p l e ({ frames := 3, cells := 0, slots := 0, locals := 71 } : Room) s m args below meth c H locs 0 0 (MQ below ((xQi D (fun (r : Int32) (u : Nat × (Nat → Int32) × (Nat → Int32) × Int32 × Int32 × (Nat → Int32)) => match u with | (kmz, fz, gz, nqz, xdz, qz) => (colP fz ∧ keptP gz ∧ kmz ≤ 8) ∧ (∀ j, j < 8 → ∃ v, rowU fz j v ∧ okU be v) ∧ ((∃ nm, nm ≤ 300 ∧ (nI nn) = nI nm ∧ ¬ (nI nn) < nI 1 ∧ runM n k al be pr nm (sd, f, qq, nq, nI 0) (xdz, fz, qz, nqz, r) ∧ kpdP km f g kmz gz) ∨ (¬ (¬ (nI nn) < nI 1 ∧ (nI nn) ≤ nI 300) ∧ r = -1 ∧ (fz = f ∧ gz = g ∧ kmz = km) ∧ qz = qq ∧ nqz = nq ∧ xdz = xd))) (fun (u : Nat × (Nat → Int32) × (Nat → Int32) × Int32 × Int32 × (Nat → Int32)) => match u with | (kmz, fz, gz, nqz, xdz, qz) => [(hm, .inr (12, [.ref ms, .ref mkp, .int (nI kmz), .ref mtr, .int (nI n), .int (nI k), .int (nI al), .int (nI be), .int ea, .int pr, .ref mas, .int nqz, .int po, .int (nI en), .ref mso, .ref mon, .ref mot, .ref man, .int (nI 0), .int xdz, .ref mst, .ref msm, .ref mtb, .ref mti, .ref mfr, .ref mbn, .ref mbs, .ref mde, .int sF, .int sN, .int sS, .int ig, .long xa, .long xb, .ref maa, .ref mab, .ref mba, .ref mbb])), (ms, .inl (cs 0, 288, .inl fz)), (mkp, .inl (cs 0, 2304, .inl gz)), (mas, .inl (cs 0, 8, .inl qz))])) A) args s 0 0 A) (F0 m 32 ls []) := by
      intro n_loop_8
      induction n_loop_8 with
      | zero => intro o f9 q9 n9 d9 c9 h_o hs9 hw9 hR9 hlt H locs ls hP hD hS hl; exact absurd hlt (Nat.not_lt_zero _)
      | succ n_loop_8 ih_loop_8 =>
        intro o f9 q9 n9 d9 c9 h_o hs9 hw9 hR9 hlt_loop_8 H locs ls hP hD hS hl
        refine lv_iload hx hb dX12_run_32 (lv_at hl 0 rfl) ?_
        refine lv_iload_n hx hb dX12_run_34 rfl (lv_at hl 3 rfl) ?_
        refine lv_icmp_ge (tgt := 110) hx hb dX12_run_35 (by decide) (fun c_9 => ?_) (fun c_9 => ?_)
        · -- 35 t
          have fc_9 : nn ≤ o := nf_le (by omega) (by omega) c_9
          refine lv_iload_n hx hb dX12_run_110 rfl (lv_at hl 1 rfl) ?_
          exact xreti C (⟨kmz_6, f9, gz_7, n9, d9, q9⟩) (⟨⟨hs9, hw_r_4.1⟩, hw9, Or.inl ⟨nn, h_nn, rfl, hyx.1, by have q7 : o = nn := (by omega); subst q7; exact hR9, hw_r_4.2⟩⟩) (xP_map hP [1, 2, 3, 0] rfl) (hD.sub [1, 2, 3, 0] (by decide) rfl) hS (Nat.le_of_ble_eq_true rfl) (Nat.le_of_ble_eq_true rfl) rfl dX12_run_111
        · -- 35 f
          have fc_9 : o < nn := nf_nle (by omega) (by omega) c_9
          refine lv_aload_n hx hb dX12_run_38 rfl (lv_at hl 2 rfl) ?_
          refine lv_aload_n hx hb dX12_run_39 rfl (lv_at hl 2 rfl) ?_
          refine xget C hP 1 rfl rfl zuX12 4 (by decide) zw5_217 rfl dX12_run_40 ?_
          refine xi (wr := [(mas, .inl (cs 0, 8, .inl q9)), (ms, .inl (cs 0, 288, .inl f9)), (mkp, .inl (cs 0, 2304, .inl gz_7))]) (xV (As := [.int (nI n)]) (rest := []) C (c_X12_draw_f l D cs hm ms mkp mtr mas mso mon mot man mst msm mtb mti mfr mbn mbs mde maa mab mba mbb n k al be kmz_6 en ea pr n9 po (nI 0) d9 sF sN sS ig xa xb n (by omega) (by omega)) kX12_156 hP hD [1] rfl (by decide) 0 rfl rfl rfl ⟨Nat.le_of_ble_eq_true rfl, Nat.le_of_ble_eq_true rfl⟩ rfl hl.1 rfl (Nat.le_of_ble_eq_true rfl) dX12_run_43 ⟨Nat.le_of_ble_eq_true rfl, Nat.le_of_ble_eq_true rfl⟩) hP hD hS hA [1] [0, 2, 3] rfl rfl (by decide) (by decide) ?_
          clear hP hD hS
          try clear locs
          try clear H
          intro r_10 u_11 H locs hw_r_10 hP hD hS
          have hw_r_10 : u_11 = nxD d9 ∧ r_10 = drV (nxD d9) (nI n) ∧ ∃ j, j < n ∧ r_10 = nI j := hw_r_10
          refine W.widen (k := 0) (n := 0) (Nat.le_of_ble_eq_true rfl) (Nat.le_of_ble_eq_true rfl) ?_
          replace hP : va_P D vwCl [(mas, .inl (cs 0, 8, .inl q9)), (ms, .inl (cs 0, 288, .inl f9)), (mkp, .inl (cs 0, 2304, .inl gz_7)), (hm, .inr (12, [.ref ms, .ref mkp, .int (nI kmz_6), .ref mtr, .int (nI n), .int (nI k), .int (nI al), .int (nI be), .int ea, .int pr, .ref mas, .int n9, .int po, .int (nI en), .ref mso, .ref mon, .ref mot, .ref man, .int (nI 0), .int u_11, .ref mst, .ref msm, .ref mtb, .ref mti, .ref mfr, .ref mbn, .ref mbs, .ref mde, .int sF, .int sN, .int sS, .int ig, .long xa, .long xb, .ref maa, .ref mab, .ref mba, .ref mbb]))] H := hP
          replace hD : va_D A [(mas, .inl (cs 0, 8, .inl q9)), (ms, .inl (cs 0, 288, .inl f9)), (mkp, .inl (cs 0, 2304, .inl gz_7)), (hm, .inr (12, [.ref ms, .ref mkp, .int (nI kmz_6), .ref mtr, .int (nI n), .int (nI k), .int (nI al), .int (nI be), .int ea, .int pr, .ref mas, .int n9, .int po, .int (nI en), .ref mso, .ref mon, .ref mot, .ref man, .int (nI 0), .int u_11, .ref mst, .ref msm, .ref mtb, .ref mti, .ref mfr, .ref mbn, .ref mbs, .ref mde, .int sF, .int sN, .int sS, .int ig, .long xa, .long xb, .ref maa, .ref mab, .ref mba, .ref mbb]))] := hD
          obtain ⟨jx, h_jx, rfl⟩ := hw_r_10.2.2
          replace hP : va_P D vwCl [(mas, .inl (cs 0, 8, .inl q9)), (ms, .inl (cs 0, 288, .inl f9)), (mkp, .inl (cs 0, 2304, .inl gz_7)), (hm, .inr (12, [.ref ms, .ref mkp, .int (nI kmz_6), .ref mtr, .int (nI n), .int (nI k), .int (nI al), .int (nI be), .int ea, .int pr, .ref mas, .int n9, .int po, .int (nI en), .ref mso, .ref mon, .ref mot, .ref man, .int (nI 0), .int u_11, .ref mst, .ref msm, .ref mtb, .ref mti, .ref mfr, .ref mbn, .ref mbs, .ref mde, .int sF, .int sN, .int sS, .int ig, .long xa, .long xb, .ref maa, .ref mab, .ref mba, .ref mbb]))] H := hP
          replace hD : va_D A [(mas, .inl (cs 0, 8, .inl q9)), (ms, .inl (cs 0, 288, .inl f9)), (mkp, .inl (cs 0, 2304, .inl gz_7)), (hm, .inr (12, [.ref ms, .ref mkp, .int (nI kmz_6), .ref mtr, .int (nI n), .int (nI k), .int (nI al), .int (nI be), .int ea, .int pr, .ref mas, .int n9, .int po, .int (nI en), .ref mso, .ref mon, .ref mot, .ref man, .int (nI 0), .int u_11, .ref mst, .ref msm, .ref mtb, .ref mti, .ref mfr, .ref mbn, .ref mbs, .ref mde, .int sF, .int sN, .int sS, .int ig, .long xa, .long xb, .ref maa, .ref mab, .ref mba, .ref mbb]))] := hD
          refine lv_istore (lv' := [(5, .int (nI jx)), (4, .int (nI o)), (3, .int c9), (0, .ref hm), (1, .int (nI nn)), (2, .int sd)]) hx hb dX12_run_46 hl (by decide) rfl ?_
          clear hl
          try clear ls
          intro ls hl
          refine lv_aload_n hx hb dX12_run_48 rfl (lv_at hl 3 rfl) ?_
          refine lv_iload hx hb dX12_run_49 (lv_at hl 0 rfl) ?_
          refine xi (wr := [(mas, .inl (cs 0, 8, .inl q9)), (ms, .inl (cs 0, 288, .inl f9)), (mkp, .inl (cs 0, 2304, .inl gz_7))]) (xV (As := [.int (nI jx)]) (rest := []) C (c_X12_drawSample_f l D cs hm ms mkp mtr mas mso mon mot man mst msm mtb mti mfr mbn mbs mde maa mab mba mbb n k al be kmz_6 en ea pr n9 po (nI 0) u_11 sF sN sS ig xa xb jx hn hkn (by omega)) kX12_162 hP hD [3] rfl (by decide) 0 rfl rfl rfl ⟨Nat.le_of_ble_eq_true rfl, Nat.le_of_ble_eq_true rfl⟩ rfl hl.1 rfl (Nat.le_of_ble_eq_true rfl) dX12_run_51 ⟨Nat.le_of_ble_eq_true rfl, Nat.le_of_ble_eq_true rfl⟩) hP hD hS hA [3] [0, 1, 2] rfl rfl (by decide) (by decide) ?_
          clear hP hD hS
          try clear locs
          try clear H
          intro r_12 u_13 H locs hw_r_12 hP hD hS
          have hw_r_12 : ∃ l9, dsI n (u_11, lefI n jx, nI 0) k u_13 l9 r_12 := hw_r_12
          refine W.widen (k := 0) (n := 0) (Nat.le_of_ble_eq_true rfl) (Nat.le_of_ble_eq_true rfl) ?_
          replace hP : va_P D vwCl [(mas, .inl (cs 0, 8, .inl q9)), (ms, .inl (cs 0, 288, .inl f9)), (mkp, .inl (cs 0, 2304, .inl gz_7)), (hm, .inr (12, [.ref ms, .ref mkp, .int (nI kmz_6), .ref mtr, .int (nI n), .int (nI k), .int (nI al), .int (nI be), .int ea, .int pr, .ref mas, .int n9, .int po, .int (nI en), .ref mso, .ref mon, .ref mot, .ref man, .int (nI 0), .int u_13, .ref mst, .ref msm, .ref mtb, .ref mti, .ref mfr, .ref mbn, .ref mbs, .ref mde, .int sF, .int sN, .int sS, .int ig, .long xa, .long xb, .ref maa, .ref mab, .ref mba, .ref mbb]))] H := hP
          replace hD : va_D A [(mas, .inl (cs 0, 8, .inl q9)), (ms, .inl (cs 0, 288, .inl f9)), (mkp, .inl (cs 0, 2304, .inl gz_7)), (hm, .inr (12, [.ref ms, .ref mkp, .int (nI kmz_6), .ref mtr, .int (nI n), .int (nI k), .int (nI al), .int (nI be), .int ea, .int pr, .ref mas, .int n9, .int po, .int (nI en), .ref mso, .ref mon, .ref mot, .ref man, .int (nI 0), .int u_13, .ref mst, .ref msm, .ref mtb, .ref mti, .ref mfr, .ref mbn, .ref mbs, .ref mde, .int sF, .int sN, .int sS, .int ig, .long xa, .long xb, .ref maa, .ref mab, .ref mba, .ref mbb]))] := hD
          obtain ⟨l8, hl8⟩ := hw_r_12
          rw [hw_r_10.1] at hl8
          refine lv_istore (lv' := [(6, .int r_12), (5, .int (nI jx)), (4, .int (nI o)), (3, .int c9), (0, .ref hm), (1, .int (nI nn)), (2, .int sd)]) hx hb dX12_run_54 hl (by decide) rfl ?_
          clear hl
          try clear ls
          intro ls hl
          refine lv_aload_n hx hb dX12_run_56 rfl (lv_at hl 4 rfl) ?_
          refine lv_iload hx hb dX12_run_57 (lv_at hl 1 rfl) ?_
          refine xi (wr := [(mas, .inl (cs 0, 8, .inl q9)), (mkp, .inl (cs 0, 2304, .inl gz_7))]) (xV (As := [.int (nI jx)]) (rest := []) C (c_X12_canAsk_f l D cs hm ms mkp mtr mas mso mon mot man mst msm mtb mti mfr mbn mbs mde maa mab mba mbb n k al be kmz_6 en ea pr n9 po (nI 0) u_13 sF sN sS ig xa xb f9 jx (by omega)) kX12_142 hP hD [3, 1] rfl (by decide) 0 rfl rfl rfl ⟨Nat.le_of_ble_eq_true rfl, Nat.le_of_ble_eq_true rfl⟩ rfl hl.1 rfl (Nat.le_of_ble_eq_true rfl) dX12_run_59 ⟨Nat.le_of_ble_eq_true rfl, Nat.le_of_ble_eq_true rfl⟩) hP hD hS hA [3, 1] [0, 2] rfl rfl (by decide) (by decide) ?_
          clear hP hD hS
          try clear locs
          try clear H
          intro r_14 u_15 H locs hw_r_14 hP hD hS
          have hw_r_14 : PQ (mcaP f9 jx) r_14 (nI 1) (nI 0) := hw_r_14
          refine W.widen (k := 0) (n := 0) (Nat.le_of_ble_eq_true rfl) (Nat.le_of_ble_eq_true rfl) ?_
          replace hP : va_P D vwCl [(mas, .inl (cs 0, 8, .inl q9)), (mkp, .inl (cs 0, 2304, .inl gz_7)), (hm, .inr (12, [.ref ms, .ref mkp, .int (nI kmz_6), .ref mtr, .int (nI n), .int (nI k), .int (nI al), .int (nI be), .int ea, .int pr, .ref mas, .int n9, .int po, .int (nI en), .ref mso, .ref mon, .ref mot, .ref man, .int (nI 0), .int u_13, .ref mst, .ref msm, .ref mtb, .ref mti, .ref mfr, .ref mbn, .ref mbs, .ref mde, .int sF, .int sN, .int sS, .int ig, .long xa, .long xb, .ref maa, .ref mab, .ref mba, .ref mbb])), (ms, .inl (cs 0, 288, .inl f9))] H := hP
          replace hD : va_D A [(mas, .inl (cs 0, 8, .inl q9)), (mkp, .inl (cs 0, 2304, .inl gz_7)), (hm, .inr (12, [.ref ms, .ref mkp, .int (nI kmz_6), .ref mtr, .int (nI n), .int (nI k), .int (nI al), .int (nI be), .int ea, .int pr, .ref mas, .int n9, .int po, .int (nI en), .ref mso, .ref mon, .ref mot, .ref man, .int (nI 0), .int u_13, .ref mst, .ref msm, .ref mtb, .ref mti, .ref mfr, .ref mbn, .ref mbs, .ref mde, .int sF, .int sN, .int sS, .int ig, .long xa, .long xb, .ref maa, .ref mab, .ref mba, .ref mbb])), (ms, .inl (cs 0, 288, .inl f9))] := hD
          refine lv_if_ne (tgt := 68) hx hb dX12_run_62 (by decide) (fun c_16 => ?_) (fun c_16 => ?_)
          · -- 62 t
            have hmc := PQ.yes hw_r_14 c_16
            have hna := hmc.2.2
            obtain ⟨u9, hu9, hk9⟩ := hw9 jx (by omega)
            have hcu := can_u hu9 hk9 hbe.2 hmc
            refine lv_aload_n hx hb dX12_run_68 rfl (lv_at hl 4 rfl) ?_
            refine xget C hP 2 rfl rfl zuX12 10 (by decide) zw5_223 rfl dX12_run_69 ?_
            refine lv_iload hx hb dX12_run_72 (lv_at hl 1 rfl) ?_
            refine lv_dup2_11 hx hb dX12_run_74 rfl rfl ?_
            refine xiald C hP 0 rfl jx rfl (by omega) (by decide) dX12_run_75 ?_
            refine lv_iconst (v := nI 1) hx hb dX12_run_76 (by decide) ?_
            refine lv_iadd hx hb dX12_run_77 ?_
            refine xiast C hP hD hS 0 rfl jx rfl (by omega) (by decide) dX12_run_78 ?_
            clear hP hD hS
            try clear locs
            try clear H
            intro H locs hP hD hS
            replace hP : va_P D vwCl [(mas, .inl (cs 0, 8, .inl (upd q9 jx ((q9 jx) + (nI 1))))), (mkp, .inl (cs 0, 2304, .inl gz_7)), (hm, .inr (12, [.ref ms, .ref mkp, .int (nI kmz_6), .ref mtr, .int (nI n), .int (nI k), .int (nI al), .int (nI be), .int ea, .int pr, .ref mas, .int n9, .int po, .int (nI en), .ref mso, .ref mon, .ref mot, .ref man, .int (nI 0), .int u_13, .ref mst, .ref msm, .ref mtb, .ref mti, .ref mfr, .ref mbn, .ref mbs, .ref mde, .int sF, .int sN, .int sS, .int ig, .long xa, .long xb, .ref maa, .ref mab, .ref mba, .ref mbb])), (ms, .inl (cs 0, 288, .inl f9))] H := hP
            replace hD : va_D A [(mas, .inl (cs 0, 8, .inl (upd q9 jx ((q9 jx) + (nI 1))))), (mkp, .inl (cs 0, 2304, .inl gz_7)), (hm, .inr (12, [.ref ms, .ref mkp, .int (nI kmz_6), .ref mtr, .int (nI n), .int (nI k), .int (nI al), .int (nI be), .int ea, .int pr, .ref mas, .int n9, .int po, .int (nI en), .ref mso, .ref mon, .ref mot, .ref man, .int (nI 0), .int u_13, .ref mst, .ref msm, .ref mtb, .ref mti, .ref mfr, .ref mbn, .ref mbs, .ref mde, .int sF, .int sN, .int sS, .int ig, .long xa, .long xb, .ref maa, .ref mab, .ref mba, .ref mbb])), (ms, .inl (cs 0, 288, .inl f9))] := hD
            refine lv_aload_n hx hb dX12_run_79 rfl (lv_at hl 4 rfl) ?_
            refine lv_dup hx hb dX12_run_80 rfl ?_
            refine xget C hP 2 rfl rfl zuX12 11 (by decide) zw5_224 rfl dX12_run_81 ?_
            refine lv_iconst (v := nI 1) hx hb dX12_run_84 (by decide) ?_
            refine lv_iadd hx hb dX12_run_85 ?_
            refine xput C hP hD hS 2 rfl rfl zuX12 tyX12 tyX12_ok nmX12 11 (by decide) zw5_224 rfl rfl rfl (Nat.le_of_ble_eq_true rfl) dX12_run_86 ?_
            clear hP hD hS
            try clear locs
            try clear H
            intro H locs hP hD hS
            replace hP : va_P D vwCl [(mas, .inl (cs 0, 8, .inl (upd q9 jx ((q9 jx) + (nI 1))))), (mkp, .inl (cs 0, 2304, .inl gz_7)), (hm, .inr (12, [.ref ms, .ref mkp, .int (nI kmz_6), .ref mtr, .int (nI n), .int (nI k), .int (nI al), .int (nI be), .int ea, .int pr, .ref mas, .int (n9 + (nI 1)), .int po, .int (nI en), .ref mso, .ref mon, .ref mot, .ref man, .int (nI 0), .int u_13, .ref mst, .ref msm, .ref mtb, .ref mti, .ref mfr, .ref mbn, .ref mbs, .ref mde, .int sF, .int sN, .int sS, .int ig, .long xa, .long xb, .ref maa, .ref mab, .ref mba, .ref mbb])), (ms, .inl (cs 0, 288, .inl f9))] H := hP
            replace hD : va_D A [(mas, .inl (cs 0, 8, .inl (upd q9 jx ((q9 jx) + (nI 1))))), (mkp, .inl (cs 0, 2304, .inl gz_7)), (hm, .inr (12, [.ref ms, .ref mkp, .int (nI kmz_6), .ref mtr, .int (nI n), .int (nI k), .int (nI al), .int (nI be), .int ea, .int pr, .ref mas, .int (n9 + (nI 1)), .int po, .int (nI en), .ref mso, .ref mon, .ref mot, .ref man, .int (nI 0), .int u_13, .ref mst, .ref msm, .ref mtb, .ref mti, .ref mfr, .ref mbn, .ref mbs, .ref mde, .int sF, .int sN, .int sS, .int ig, .long xa, .long xb, .ref maa, .ref mab, .ref mba, .ref mbb])), (ms, .inl (cs 0, 288, .inl f9))] := hD
            refine lv_aload_n hx hb dX12_run_89 rfl (lv_at hl 4 rfl) ?_
            refine lv_iload hx hb dX12_run_90 (lv_at hl 1 rfl) ?_
            refine lv_iload hx hb dX12_run_92 (lv_at hl 0 rfl) ?_
            refine xi (wr := [(mas, .inl (cs 0, 8, .inl (upd q9 jx ((q9 jx) + (nI 1))))), (mkp, .inl (cs 0, 2304, .inl gz_7))]) (xV (As := [.int (nI jx), .int r_12]) (rest := []) C (c_X12_asks_f l D cs hm ms mkp mtr mas mso mon mot man mst msm mtb mti mfr mbn mbs mde maa mab mba mbb n k al be kmz_6 en ea pr (n9 + (nI 1)) po (nI 0) u_13 sF sN sS ig xa xb f9 jx r_12 u9 hn (by omega) hs9 hna hal hbe hpr hu9 hk9 hcu.1 hcu.2.1 hcu.2.2) kX12_145 hP hD [2, 3] rfl (by decide) 0 rfl rfl rfl ⟨Nat.le_of_ble_eq_true rfl, Nat.le_of_ble_eq_true rfl⟩ rfl hl.1 rfl (Nat.le_of_ble_eq_true rfl) dX12_run_94 ⟨Nat.le_of_ble_eq_true rfl, Nat.le_of_ble_eq_true rfl⟩) hP hD hS hA [2, 3] [0, 1] rfl rfl (by decide) (by decide) ?_
            clear hP hD hS
            try clear locs
            try clear H
            intro r_17 u_18 H locs hw_r_17 hP hD hS
            have hw_r_17 : ∃ (g : Nat → Int32) (z o : Nat), askI f9 r_12 jx n g z o ∧ (∀ j, 8 ≤ j → g j = f9 j) ∧ rowU u_18 jx (uSet pr be (winU al z o) u9) ∧ r_17 = nI (ansU u9 (uSet pr be (winU al z o) u9)) ∧ (∀ j, ¬ j = 0 + jx → ¬ j = 8 + jx → ¬ j = 16 + jx → ¬ j = 24 + jx → ¬ j = 32 + jx → ¬ j = 40 + jx → u_18 j = g j) ∧ colP u_18 := hw_r_17
            refine W.widen (k := 0) (n := 0) (Nat.le_of_ble_eq_true rfl) (Nat.le_of_ble_eq_true rfl) ?_
            replace hP : va_P D vwCl [(mas, .inl (cs 0, 8, .inl (upd q9 jx ((q9 jx) + (nI 1))))), (mkp, .inl (cs 0, 2304, .inl gz_7)), (hm, .inr (12, [.ref ms, .ref mkp, .int (nI kmz_6), .ref mtr, .int (nI n), .int (nI k), .int (nI al), .int (nI be), .int ea, .int pr, .ref mas, .int (n9 + (nI 1)), .int po, .int (nI en), .ref mso, .ref mon, .ref mot, .ref man, .int (nI 0), .int u_13, .ref mst, .ref msm, .ref mtb, .ref mti, .ref mfr, .ref mbn, .ref mbs, .ref mde, .int sF, .int sN, .int sS, .int ig, .long xa, .long xb, .ref maa, .ref mab, .ref mba, .ref mbb])), (ms, .inl (cs 0, 288, .inl u_18))] H := hP
            replace hD : va_D A [(mas, .inl (cs 0, 8, .inl (upd q9 jx ((q9 jx) + (nI 1))))), (mkp, .inl (cs 0, 2304, .inl gz_7)), (hm, .inr (12, [.ref ms, .ref mkp, .int (nI kmz_6), .ref mtr, .int (nI n), .int (nI k), .int (nI al), .int (nI be), .int ea, .int pr, .ref mas, .int (n9 + (nI 1)), .int po, .int (nI en), .ref mso, .ref mon, .ref mot, .ref man, .int (nI 0), .int u_13, .ref mst, .ref msm, .ref mtb, .ref mti, .ref mfr, .ref mbn, .ref mbs, .ref mde, .int sF, .int sN, .int sS, .int ig, .long xa, .long xb, .ref maa, .ref mab, .ref mba, .ref mbb])), (ms, .inl (cs 0, 288, .inl u_18))] := hD
            refine lv_iconst (v := nI 2) hx hb dX12_run_97 (by decide) ?_
            refine lv_icmp_ne (tgt := 104) hx hb dX12_run_98 (by decide) (fun c_19 => ?_) (fun c_19 => ?_)
            · -- 98 t
              refine lv_iinc (v := nI (o + 1)) (lv' := [(4, .int (nI (o + 1))), (6, .int r_12), (5, .int (nI jx)), (3, .int c9), (0, .ref hm), (1, .int (nI nn)), (2, .int sd)]) hx hb dX12_run_104 hl (k := 2) rfl (nI_add o 1) (by decide) rfl ?_
              clear hl
              try clear ls
              intro ls hl
              refine lv_goto (tgt := 32) hx hb dX12_run_107 (by decide) ?_
              exact ih_loop_8 (o + 1) u_18 (upd q9 jx ((q9 jx) + (nI 1))) (n9 + (nI 1)) u_13 c9 (by omega) (askedP.col hw_r_17) (rows_step (by omega) hn.2 hna hbe hu9 hk9 hcu.1 hcu.2.1 hw9 hw_r_17) (⟨_, hR9, jx, l8, _, h_jx, hw_r_10.2.1, hl8, Or.inr ⟨hmc, u9, _, hu9, hk9, hw_r_17, rfl, rfl, (if_neg c_19).symm⟩⟩) (by omega) H locs ls (xP_map hP [0, 2, 3, 1] rfl) (hD.sub [0, 2, 3, 1] (by decide) rfl) hS (lv_sub hl [0, 3, 4, 5, 6] rfl)
            · -- 98 f
              refine lv_iinc (v := c9 + 1) (lv' := [(3, .int (c9 + 1)), (6, .int r_12), (5, .int (nI jx)), (4, .int (nI o)), (0, .ref hm), (1, .int (nI nn)), (2, .int sd)]) hx hb dX12_run_101 hl (k := 3) rfl rfl (by decide) rfl ?_
              clear hl
              try clear ls
              intro ls hl
              refine lv_iinc (v := nI (o + 1)) (lv' := [(4, .int (nI (o + 1))), (3, .int (c9 + 1)), (6, .int r_12), (5, .int (nI jx)), (0, .ref hm), (1, .int (nI nn)), (2, .int sd)]) hx hb dX12_run_104 hl (k := 3) rfl (nI_add o 1) (by decide) rfl ?_
              clear hl
              try clear ls
              intro ls hl
              refine lv_goto (tgt := 32) hx hb dX12_run_107 (by decide) ?_
              exact ih_loop_8 (o + 1) u_18 (upd q9 jx ((q9 jx) + (nI 1))) (n9 + (nI 1)) u_13 (c9 + 1) (by omega) (askedP.col hw_r_17) (rows_step (by omega) hn.2 hna hbe hu9 hk9 hcu.1 hcu.2.1 hw9 hw_r_17) (⟨_, hR9, jx, l8, _, h_jx, hw_r_10.2.1, hl8, Or.inr ⟨hmc, u9, _, hu9, hk9, hw_r_17, rfl, rfl, (if_pos c_19).symm⟩⟩) (by omega) H locs ls (xP_map hP [0, 2, 3, 1] rfl) (hD.sub [0, 2, 3, 1] (by decide) rfl) hS (lv_sub hl [0, 1, 4, 5, 6] rfl)
          · -- 62 f
            refine lv_goto (tgt := 104) hx hb dX12_run_65 (by decide) ?_
            refine lv_iinc (v := nI (o + 1)) (lv' := [(4, .int (nI (o + 1))), (6, .int r_12), (5, .int (nI jx)), (3, .int c9), (0, .ref hm), (1, .int (nI nn)), (2, .int sd)]) hx hb dX12_run_104 hl (k := 2) rfl (nI_add o 1) (by decide) rfl ?_
            clear hl
            try clear ls
            intro ls hl
            refine lv_goto (tgt := 32) hx hb dX12_run_107 (by decide) ?_
            exact ih_loop_8 (o + 1) f9 q9 n9 u_13 c9 (by omega) hs9 hw9 (⟨_, hR9, jx, l8, _, h_jx, hw_r_10.2.1, hl8, Or.inl ⟨PQ.no hw_r_14 c_16 (by decide), rfl⟩⟩) (by omega) H locs ls (xP_map hP [0, 2, 3, 1] rfl) (hD.sub [0, 2, 3, 1] (by decide) rfl) hS (lv_sub hl [0, 3, 4, 5, 6] rfl)
    exact loop_8 _ 0 f qq nq sd (nI 0) (by omega) hs hrow rfl (Nat.lt_succ_self _) H locs ls hP hD hS (lv_sub hl [0, 1, 2, 3, 4] rfl)
  · -- 13 f
    refine lv_iconst (v := (-1)) hx hb dX12_run_16 (by decide) ?_
    exact xreti C (⟨km, f, g, nq, xd, qq⟩) (⟨⟨hs, hk, hkm⟩, hrow, Or.inr ⟨fun q => PQ.no hw_r_1 c_3 (by decide) q, rfl, ⟨rfl, rfl, rfl⟩, rfl, rfl, rfl⟩⟩) hP hD hS (Nat.le_of_ble_eq_true rfl) (Nat.le_of_ble_eq_true rfl) rfl dX12_run_17
