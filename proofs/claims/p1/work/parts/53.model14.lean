/-- how many of the first bits are set -/
def mnC (x : Int32) : Nat → Int32
  | 0 => nI 0
  | i + 1 => if (x >>> (nI i &&& 31)) &&& nI 1 = nI 1 then mnC x i + nI 1 else mnC x i
theorem mnC_t {x : Int32} {i : Nat} (h : (x >>> (nI i &&& 31)) &&& nI 1 = nI 1) : mnC x i + nI 1 = mnC x (i + 1) := (if_pos h).symm
theorem mnC_f {x : Int32} {i : Nat} (h : ¬ (x >>> (nI i &&& 31)) &&& nI 1 = nI 1) : mnC x i = mnC x (i + 1) := (if_neg h).symm

set_option maxHeartbeats 4000000 in
set_option maxRecDepth 100000 in
theorem c_X12_many_x (l : Launch) (D : va_G) (cs : Nat → ClassId) (x : Int32) : xMet l D cs yX12_many cX12_many 3 (some .int) ({ frames := 1, cells := 0, slots := 0, locals := 21 } : Room) [.int x] [] (xQi D (fun (r : Int32) (_u : Unit) => r = mnC x 16) (fun (_u : Unit) => [])) := by
  refine xMet.intro (by decide) (Nat.le_of_ble_eq_true rfl) ?_
  intro p e s m args below meth c A ls C hP hD hS hl
  have hx := C.1
  have hb := C.2.1
  have hz := C.2.2.2.2.1
  have hown := C.2.2.2.1
  have hA := C.2.2.2.2.2.2.2.2.2
  have hAO := C.2.2.2.2.2.2.2.2.1.2.2
  have hl : lv_has ls 3 [(0, .int x)] := hl
  obtain ⟨H, hH⟩ : ∃ H, H = s.heap := ⟨_, rfl⟩
  have hP : va_P D vwCl [] H := by rw [hH]; exact hP
  have hS : va_S A s.heap H [] := by rw [hH]; exact hS
  obtain ⟨locs, hlocs⟩ : ∃ z : List Loc, z = [] := ⟨_, rfl⟩
  rw [← hlocs] at hS
  suffices hW : W p l e ({ frames := 1, cells := 0, slots := 0, locals := 21 } : Room) s m args below meth c H locs 0 0 (MQ below ((xQi D (fun (r : Int32) (_u : Unit) => r = mnC x 16) (fun (_u : Unit) => [])) A) args s 0 0 A) (F0 m 0 ls []) by rw [hlocs, hH] at hW; exact hW
  refine lv_iconst (v := nI 0) hx hb dX12_many_0 (by decide) ?_
  refine lv_istore_n (lv' := [(1, .int (nI 0)), (0, .int x)]) hx hb dX12_many_1 rfl hl (by decide) rfl (fun ls hl => ?_)
  refine lv_iconst (v := nI 0) hx hb dX12_many_2 (by decide) ?_
  refine lv_istore_n (lv' := [(2, .int (nI 0)), (1, .int (nI 0)), (0, .int x)]) hx hb dX12_many_3 rfl hl (by decide) rfl (fun ls hl => ?_)
  have loop_1 : ∀ (n_loop_1 : Nat) (i : Nat), (i ≤ 16) → 16 - i < n_loop_1 → ∀ (H : Heap) (locs : List Loc) (ls : Array Slot), va_P D vwCl [] H → va_D A [] → va_S A s.heap H locs → lv_has ls 3 [(2, .int (nI i)), (1, .int (mnC x i)), (0, .int x)] → W p l e ({ frames := 1, cells := 0, slots := 0, locals := 21 } : Room) s m args below meth c H locs 0 0 (MQ below ((xQi D (fun (r : Int32) (_u : Unit) => r = mnC x 16) (fun (_u : Unit) => [])) A) args s 0 0 A) (F0 m 4 ls []) := by
    intro n_loop_1
    induction n_loop_1 with
    | zero => intro i h_i hlt H locs ls hP hD hS hl; exact absurd hlt (Nat.not_lt_zero _)
    | succ n_loop_1 ih_loop_1 =>
      intro i h_i hlt_loop_1 H locs ls hP hD hS hl
      refine lv_iload_n hx hb dX12_many_4 rfl (lv_at hl 0 rfl) ?_
      refine lv_bipush (v := nI 16) hx hb dX12_many_5 (by decide) ?_
      refine lv_icmp_ge (tgt := 27) hx hb dX12_many_7 (by decide) (fun c_2 => ?_) (fun c_2 => ?_)
      · -- 7 t
        have fc_2 : 16 ≤ i := nf_le (by omega) (by omega) c_2
        obtain rfl : 16 = i := by omega
        have hP : va_P D vwCl [] H := hP
        have hD : va_D A [] := hD
        refine lv_iload_n hx hb dX12_many_27 rfl (lv_at hl 1 rfl) ?_
        exact xreti C () rfl hP hD hS (Nat.le_of_ble_eq_true rfl) (Nat.le_of_ble_eq_true rfl) rfl dX12_many_28
      · -- 7 f
        have fc_2 : i < 16 := nf_nle (by omega) (by omega) c_2
        refine lv_iload_n hx hb dX12_many_10 rfl (lv_at hl 2 rfl) ?_
        refine lv_iload_n hx hb dX12_many_11 rfl (lv_at hl 0 rfl) ?_
        refine xi (wr := []) (xS (As := [.int x, .int (nI i)]) (rest := []) C (c_X12_has l D cs x (nI i)) kX12_100 hP hD [] rfl (by decide +kernel) ⟨Nat.le_of_ble_eq_true rfl, Nat.le_of_ble_eq_true rfl⟩ rfl hl.1 rfl (Nat.le_of_ble_eq_true rfl) dX12_many_12 ⟨Nat.le_of_ble_eq_true rfl, Nat.le_of_ble_eq_true rfl⟩) hP hD hS hA [] [] rfl rfl (by decide +kernel) (by decide +kernel) (fun r_3 u_4 H locs hw_r_3 hP hD hS => ?_)
        have hw_r_3 : PQ ((x >>> ((nI i) &&& 31)) &&& nI 1 = nI 1) r_3 (nI 1) (nI 0) := hw_r_3
        refine W.widen (k := 0) (n := 0) (Nat.le_of_ble_eq_true rfl) (Nat.le_of_ble_eq_true rfl) ?_
        have hP : va_P D vwCl [] H := hP
        have hD : va_D A [] := hD
        refine lv_if_eq (tgt := 21) hx hb dX12_many_15 (by decide) (fun c_5 => ?_) (fun c_5 => ?_)
        · -- 15 t
          have hn_a := PQ.no hw_r_3 c_5 (by decide)
          rw [mnC_f hn_a] at hl
          refine lv_iinc (v := nI (i + 1)) (lv' := [(2, .int (nI (i + 1))), (1, .int (mnC x (i + 1))), (0, .int x)]) hx hb dX12_many_21 hl (k := 0) rfl (nI_add i 1) (by decide) rfl (fun ls hl => ?_)
          refine lv_goto (tgt := 4) hx hb dX12_many_24 (by decide) ?_
          exact ih_loop_1 (i + 1) (by omega) (by omega) H locs ls hP hD hS (lv_sub hl [0, 1, 2] rfl)
        · -- 15 f
          have hy_a := PQ.yes hw_r_3 c_5
          refine lv_iinc (v := mnC x (i + 1)) (lv' := [(1, .int (mnC x (i + 1))), (2, .int (nI i)), (0, .int x)]) hx hb dX12_many_18 hl (k := 1) rfl (mnC_t hy_a) (by decide) rfl (fun ls hl => ?_)
          refine lv_iinc (v := nI (i + 1)) (lv' := [(2, .int (nI (i + 1))), (1, .int (mnC x (i + 1))), (0, .int x)]) hx hb dX12_many_21 hl (k := 1) rfl (nI_add i 1) (by decide) rfl (fun ls hl => ?_)
          refine lv_goto (tgt := 4) hx hb dX12_many_24 (by decide) ?_
          exact ih_loop_1 (i + 1) (by omega) (by omega) H locs ls hP hD hS (lv_sub hl [0, 1, 2] rfl)
  exact loop_1 _ 0 (by omega) (Nat.lt_succ_self _) H locs ls hP hD hS (lv_sub hl [0, 1, 2] rfl)
