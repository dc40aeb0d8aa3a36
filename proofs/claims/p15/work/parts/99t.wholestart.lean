theorem xarr_int {s : State} {args : Array Value} (h : (Cond.arrayClass .int).before args s = true) : ∃ cA, ArrOfT s cA .int ∧ va_RA s cA .int := by
  obtain ⟨c, k, comp, h1, h2, h3⟩ := Cond.arrayClass_spec h
  exact ⟨c, fun n z => ⟨fun k h => (by cases h), k, h2, comp, h3⟩, h1⟩
theorem xarr_long {s : State} {args : Array Value} (h : (Cond.arrayClass .long).before args s = true) : ∃ cA, ArrOfT s cA .long ∧ va_RA s cA .long := by
  obtain ⟨c, k, comp, h1, h2, h3⟩ := Cond.arrayClass_spec h
  exact ⟨c, fun n z => ⟨fun k h => (by cases h), k, h2, comp, h3⟩, h1⟩
theorem xarr_obj {s : State} {C : String} (h : va_AO C s) : ∃ cA, ArrOfT s cA (.object C) ∧ va_RA s cA (.object C) := by
  obtain ⟨comp, c, k, h1, h2, h3, h4, h5⟩ := Cond.arrayOver_spec h
  exact ⟨c, fun n z => ⟨fun k h => (by cases h), k, h3, comp, h4⟩, k, comp, h3, h4, h1, h5⟩
theorem xarr_arr {s : State} {t : FieldType} (h : va_AOA t s) : ∃ cA, ArrOfT s cA (.array t) ∧ va_RA s cA (.array t) := by
  obtain ⟨comp, c, k, h1, h2, h3, h4, h5⟩ := arrayOverA_spec h
  exact ⟨c, fun n z => ⟨fun k h => (by cases h), k, h3, comp, h4⟩, h5⟩
set_option maxHeartbeats 4000000 in
set_option maxRecDepth 100000 in
theorem whole_start {p : Program} {e : Env} {s : State} {m : MethodId} {below : List Frame} {meth : Method} {c : Code} (l : Launch) (hflags : l.flags = flags0) {b L : Nat} {xs : Nat → Int32} (hL : L ≤ 2560) (C0 : lw_At p s m meth c b L xs) : W p l e room_1 s m #[Value.ref b] below meth c s.heap [] 0 0 (lw_Z below #[Value.ref b] s) (entryFrame m ([Value.ref b] : List Value).toArray 7) := by
  obtain ⟨hx, hb, hr, hml, hown, hts, hX, hbl, hlocks, hgv⟩ := id C0
  have hfl : l.stackTraces = false := by unfold Launch.stackTraces; rw [hflags]; decide +kernel
  have hz : ∀ w ∈ zAll, w.before #[Value.ref b] s = true := fun w h => hts w (zAll_in w h)
  have hN : xN s := ⟨⟨va_any rfl (hts _ (show (Jvm.Cond.methodLinkNest "SampleHouse" (25 : Nat) ({ cls := "SampleHouse$Graph", name := "<init>", desc := "()V" } : Jvm.MethodName) "SampleHouse") ∈ k2_sels lw_privs ++ tables_1 from List.mem_append_right _ (List.mem_append_left _ (List.mem_of_getElem? (i := 191) rfl)))), va_any rfl (hts _ (show (Jvm.Cond.methodLinkNest "SampleHouse$Group" (27 : Nat) ({ cls := "SampleHouse$View", name := "<init>", desc := "()V" } : Jvm.MethodName) "SampleHouse") ∈ k2_sels lw_privs ++ tables_1 from List.mem_append_right _ (List.mem_append_left _ (List.mem_of_getElem? (i := 136) rfl)))), va_any rfl (hts _ (show (Jvm.Cond.methodLinkNest "SampleHouse$Layers" (67 : Nat) ({ cls := "SampleHouse$States", name := "<init>", desc := "()V" } : Jvm.MethodName) "SampleHouse") ∈ k2_sels lw_privs ++ tables_1 from List.mem_append_right _ (List.mem_append_right _ (List.mem_append_right _ (List.mem_append_left _ (List.mem_of_getElem? (i := 165) rfl)))))), va_any rfl (hts _ (show (Jvm.Cond.methodLinkNest "SampleHouse$Search" (65 : Nat) ({ cls := "SampleHouse$States", name := "<init>", desc := "()V" } : Jvm.MethodName) "SampleHouse") ∈ k2_sels lw_privs ++ tables_1 from List.mem_append_right _ (List.mem_append_right _ (List.mem_append_right _ (List.mem_append_right _ (List.mem_append_left _ (List.mem_of_getElem? (i := 54) rfl)))))))⟩, (hts _ (show (Jvm.Cond.arrayOver (Jvm.ClassFile.FieldType.object "SampleHouse$View")) ∈ k2_sels lw_privs ++ tables_1 from List.mem_append_right _ (List.mem_append_left _ (List.mem_of_getElem? (i := 134) rfl)))), (hts _ (show (Jvm.Cond.arrayOver (Jvm.ClassFile.FieldType.object "SampleHouse$Group")) ∈ k2_sels lw_privs ++ tables_1 from List.mem_append_right _ (List.mem_append_right _ (List.mem_append_left _ (List.mem_of_getElem? (i := 154) rfl))))), (hts _ (show (Jvm.Cond.arrayOver (Jvm.ClassFile.FieldType.object "SampleHouse$Fraction")) ∈ k2_sels lw_privs ++ tables_1 from List.mem_append_right _ (List.mem_append_right _ (List.mem_append_left _ (List.mem_of_getElem? (i := 132) rfl))))), (hts _ (show (Jvm.Cond.arrayOver (Jvm.ClassFile.FieldType.array Jvm.ClassFile.FieldType.int)) ∈ k2_sels lw_privs ++ tables_1 from List.mem_append_right _ (List.mem_append_left _ (List.mem_of_getElem? (i := 39) rfl)))), (hts _ (show (Jvm.Cond.arrayOver (Jvm.ClassFile.FieldType.array Jvm.ClassFile.FieldType.long)) ∈ k2_sels lw_privs ++ tables_1 from List.mem_append_right _ (List.mem_append_right _ (List.mem_append_left _ (List.mem_of_getElem? (i := 40) rfl)))))⟩
  have hTH : xTH s := ⟨va_any rfl (hts _ (show (Jvm.Cond.castable "java/util/NoSuchElementException" "java/util/NoSuchElementException") ∈ k2_sels lw_privs ++ tables_1 from List.mem_append_right _ (List.mem_append_right _ (List.mem_append_right _ (List.mem_append_right _ (List.mem_append_right _ (List.mem_append_left _ (List.mem_of_getElem? (i := 132) rfl)))))))), va_any rfl (hts _ (show (Jvm.Cond.declares ({ cls := "java/lang/RuntimeException", name := "<init>", desc := "()V" } : Jvm.MethodName)) ∈ k2_sels lw_privs ++ tables_1 from List.mem_append_right _ (List.mem_append_right _ (List.mem_append_right _ (List.mem_append_right _ (List.mem_append_right _ (List.mem_append_left _ (List.mem_of_getElem? (i := 133) rfl)))))))), va_any rfl (hts _ (show (Jvm.Cond.declares ({ cls := "java/lang/Exception", name := "<init>", desc := "()V" } : Jvm.MethodName)) ∈ k2_sels lw_privs ++ tables_1 from List.mem_append_right _ (List.mem_append_right _ (List.mem_append_right _ (List.mem_append_right _ (List.mem_append_right _ (List.mem_append_left _ (List.mem_of_getElem? (i := 135) rfl)))))))), va_any rfl (hts _ (show (Jvm.Cond.declares ({ cls := "java/lang/Throwable", name := "<init>", desc := "()V" } : Jvm.MethodName)) ∈ k2_sels lw_privs ++ tables_1 from List.mem_append_right _ (List.mem_append_right _ (List.mem_append_right _ (List.mem_append_right _ (List.mem_append_right _ (List.mem_append_left _ (List.mem_of_getElem? (i := 137) rfl))))))))⟩
  have hA2 : ∀ q : Nat, q < s.heap.size → ¬ (fun q : Nat => s.heap.size ≤ q) q := fun q h => Nat.not_le.mpr h
  have hs := flat_of_before _ hgv
  have hZ : xZ (fun q : Nat => s.heap.size ≤ q) s s.heap := ⟨vx_Zqof (args := #[Value.ref b]) (hts _ (show (Jvm.Cond.laysStatic "java/lang/Throwable" "UNASSIGNED_STACK" "[Ljava/lang/StackTraceElement;") ∈ k2_sels lw_privs ++ tables_1 from List.mem_append_right _ (List.mem_append_right _ (List.mem_append_right _ (List.mem_append_right _ (List.mem_append_right _ (List.mem_append_left _ (List.mem_of_getElem? (i := 157) rfl)))))))) (hz _ zw1_20) (hs _ (by decide +kernel)) hA2, vx_Zqof (args := #[Value.ref b]) (hts _ (show (Jvm.Cond.laysStatic "java/lang/Throwable" "SUPPRESSED_SENTINEL" "Ljava/util/List;") ∈ k2_sels lw_privs ++ tables_1 from List.mem_append_right _ (List.mem_append_right _ (List.mem_append_right _ (List.mem_append_right _ (List.mem_append_right _ (List.mem_append_left _ (List.mem_of_getElem? (i := 159) rfl)))))))) (hz _ zw1_20) (hs _ (by decide +kernel)) hA2⟩
  obtain ⟨c0, i0, hKn0⟩ := u_known (C := RX0) (T := TX0) (N := 5) (n := 5) hz zuX0 (hz _ zw1_232)
  obtain ⟨c1, i1, hKn1⟩ := u_known (C := RX1) (T := TX1) (N := 6) (n := 6) hz zuX1 (hz _ zw2_126)
  obtain ⟨c2, i2, hKn2⟩ := u_known (C := RX2) (T := TX2) (N := 2) (n := 2) hz zuX2 (hz _ zw4_118)
  obtain ⟨c3, i3, hKn3⟩ := u_known (C := RX3) (T := TX3) (N := 8) (n := 8) hz zuX3 (hz _ zw1_190)
  obtain ⟨c4, i4, hKn4⟩ := u_known (C := RX4) (T := TX4) (N := 4) (n := 4) hz zuX4 (hz _ zw1_128)
  obtain ⟨c5, i5, hKn5⟩ := u_known (C := RX5) (T := TX5) (N := 13) (n := 13) hz zuX5 (hz _ zw2_34)
  obtain ⟨c6, i6, hKn6⟩ := u_known (C := RX6) (T := TX6) (N := 3) (n := 3) hz zuX6 (hz _ zw2_18)
  obtain ⟨c7, i7, hKn7⟩ := u_known (C := RX7) (T := TX7) (N := 9) (n := 9) hz zuX7 (hz _ zw1_33)
  obtain ⟨c8, i8, hKn8⟩ := u_known (C := RX8) (T := TX8) (N := 10) (n := 10) hz zuX8 (hz _ zw2_86)
  obtain ⟨c9, i9, hKn9⟩ := u_known (C := RX9) (T := TX9) (N := 3) (n := 3) hz zuX9 (hz _ zw3_164)
  obtain ⟨c10, i10, hKn10⟩ := u_known (C := RX10) (T := TX10) (N := 3) (n := 3) hz zuX10 (hz _ zw1_135)
  obtain ⟨c11, i11, hKn11⟩ := u_known (C := RX11) (T := TX11) (N := 16) (n := 16) hz zuX11 (hz _ zw1_25)
  obtain ⟨c12, i12, hKn12⟩ := u_known (C := RX12) (T := TX12) (N := 38) (n := 38) hz zuX12 (hz _ zw5_202)
  obtain ⟨a0, hAr0⟩ := (xarr_int (hz _ zw1_126))
  obtain ⟨a1, hAr1⟩ := (xarr_long (hz _ zw2_84))
  obtain ⟨a2, hAr2⟩ := (xarr_obj hN.2.1)
  obtain ⟨a3, hAr3⟩ := (xarr_obj hN.2.2.1)
  obtain ⟨a4, hAr4⟩ := (xarr_obj hN.2.2.2.1)
  obtain ⟨a5, hAr5⟩ := (xarr_arr hN.2.2.2.2.1)
  obtain ⟨a6, hAr6⟩ := (xarr_arr hN.2.2.2.2.2)
  have hK : xK (fun k => match k with | 0 => c0 | 1 => c1 | 2 => c2 | 3 => c3 | 4 => c4 | 5 => c5 | 6 => c6 | 7 => c7 | 8 => c8 | 9 => c9 | 10 => c10 | 11 => c11 | _ => c12, fun k => match k with | 0 => i0 | 1 => i1 | 2 => i2 | 3 => i3 | 4 => i4 | 5 => i5 | 6 => i6 | 7 => i7 | 8 => i8 | 9 => i9 | 10 => i10 | 11 => i11 | _ => i12) (fun k => match k with | 0 => a0 | 1 => a1 | 2 => a2 | 3 => a3 | 4 => a4 | 5 => a5 | _ => a6) s := by
    refine ⟨⟨fun k q hq => ?_, fun k q hq => ?_⟩, hN⟩
    · match k, hq with
      | 0, hq => cases hq; exact hKn0
      | 1, hq => cases hq; exact hKn1
      | 2, hq => cases hq; exact hKn2
      | 3, hq => cases hq; exact hKn3
      | 4, hq => cases hq; exact hKn4
      | 5, hq => cases hq; exact hKn5
      | 6, hq => cases hq; exact hKn6
      | 7, hq => cases hq; exact hKn7
      | 8, hq => cases hq; exact hKn8
      | 9, hq => cases hq; exact hKn9
      | 10, hq => cases hq; exact hKn10
      | 11, hq => cases hq; exact hKn11
      | 12, hq => cases hq; exact hKn12
      | k + 13, hq => simp [vwCl] at hq
    · match k, hq with
      | 0, hq => cases hq; exact hAr0
      | 1, hq => cases hq; exact hAr1
      | 2, hq => cases hq; exact hAr2
      | 3, hq => cases hq; exact hAr3
      | 4, hq => cases hq; exact hAr4
      | 5, hq => cases hq; exact hAr5
      | 6, hq => cases hq; exact hAr6
      | k + 7, hq => simp [xTY] at hq
  have hl := lv_entry ([.ref b]) (n := 7) (Nat.le_of_ble_eq_true rfl)
  rw [lg_entry_eq]
  exact law_start l hfl (A := fun q : Nat => s.heap.size ≤ q) ⟨hx, hb, hml, hown, hz, hr, hlocks, rfl, hK, fun q h => h⟩ hTH hZ hX hbl (Nat.not_le.mpr hbl) (fun q h => h) hL xP_nil xD_nil va_S.rf hl
