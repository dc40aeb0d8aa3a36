def RelH (n k al : Nat) (cN : Nat → Nat) (cF : Nat → Nat → Int32) : Prop := (∀ i, i < n → cF 14 i = ccS i n k al (k + 1 - al)) ∧ chF (n - 1) k = nI (cN 0)
theorem RelH.same {n k al : Nat} {cN cN2 : Nat → Nat} {cF cF2 : Nat → Nat → Int32} (h : RelH n k al cN cF) (e1 : cN2 0 = cN 0) (e2 : cF2 14 = cF 14) : RelH n k al cN2 cF2 := by
  unfold RelH
  rw [e1, e2]
  exact h
theorem RelH.fresh {n2 k2 al2 : Nat} {cN2 : Nat → Nat} {cF cF2 : Nat → Nat → Int32} (h : cF2 14 = fcF n2 k2 al2 (cF 14) n2 ∧ chF (n2 - 1) k2 = nI (cN2 0)) : RelH n2 k2 al2 cN2 cF2 := ⟨fun i hi => by rw [h.1]; exact if_pos hi, h.2⟩
section CHCF
variable {n : Nat} {cf cf' : Nat → Int32} (h : ∀ i, i < n → cf i = cf' i)
theorem up_cf {i : Nat} (h : ∀ i, i < n → cf i = cf' i) (hi : i < n) : upI n cf i = upI n cf' i := by unfold upI; rw [h i hi]
theorem dn_cf {i : Nat} (h : ∀ i, i < n → cf i = cf' i) (h0 : 0 < i) (hi : i ≤ n) : dnI n cf i = dnI n cf' i := by unfold dnI; rw [h (n - i) (by omega)]
theorem bu_cf (h : ∀ i, i < n → cf i = cf' i) : ∀ i, i < n → buF n cf i = buF n cf' i
  | 0, _ => rfl
  | i + 1, hi => by
    show elB n cf (i + 1) (buF n cf i) = elB n cf' (i + 1) (buF n cf' i)
    unfold elB elM uqF dqF
    rw [bu_cf h i (by omega), up_cf h hi, dn_cf h (by omega) (by omega)]
theorem re_cf (h : ∀ i, i < n → cf i = cf' i) (cost : fr) : ∀ i, i < n → reF n cf cost i = reF n cf' cost i
  | 0, _ => rfl
  | i + 1, hi => by
    show elR n cf cost (i + 1) (buF n cf i) (reF n cf cost i) = elR n cf' cost (i + 1) (buF n cf' i) (reF n cf' cost i)
    unfold elR elM uqF dqF
    rw [re_cf h cost i (by omega), bu_cf h i (by omega), up_cf h hi, dn_cf h (by omega) (by omega)]
theorem so_cf (h : ∀ i, i < n → cf i = cf' i) (hn : 0 < n) (cost last : fr) : ∀ d, soF n cf cost last d = soF n cf' cost last d
  | 0 => rfl
  | d + 1 => by
    show plF (tiF (buF n cf (n - 1 - d)) (soF n cf cost last d)) (reF n cf cost (n - 1 - d)) = plF (tiF (buF n cf' (n - 1 - d)) (soF n cf' cost last d)) (reF n cf' cost (n - 1 - d))
    rw [so_cf h hn cost last d, bu_cf h _ (by omega), re_cf h cost _ (by omega)]
theorem stA_cf (h : ∀ i, i < n → cf i = cf' i) : ∀ o i, stA n cf o i = stA n cf' o i
  | 0, _ => rfl
  | o + 1, i => by
    unfold stA
    by_cases q : 0 < i ∧ i < n
    · rw [if_pos q, if_pos q, up_cf h q.2, dn_cf h q.1 (by omega), stA_cf h o (i + 1)]
    · rw [if_neg q, if_neg q]
theorem stB_cf (h : ∀ i, i < n → cf i = cf' i) : ∀ o i, stB n cf o i = stB n cf' o i
  | 0, _ => rfl
  | o + 1, i => by
    unfold stB
    by_cases q : 0 < i ∧ i < n
    · rw [if_pos q, if_pos q, up_cf h q.2, dn_cf h q.1 (by omega), stB_cf h o (i - 1)]
    · rw [if_neg q, if_neg q]
theorem ch_cf (h : ∀ i, i < n → cf i = cf' i) (hn : 0 < n) (se j w : Nat) : chC n se cf j w = chC n se cf' j w := by
  unfold chC msC odF tmF
  rw [stA_cf h, stB_cf h, so_cf h hn, so_cf h hn]
end CHCF
def cfG (n k al : Nat) : Nat → Int32 := fun i => ccS i n k al (k + 1 - al)
def seG (n k : Nat) : Nat := (chF (n - 1) k).toNatClampNeg

theorem chn_2_1_1 : ∀ j, j < 3 → ∀ w, w < 4 → chC 2 (seG 2 1) (cfG 2 1 1) j w = chM 2 1 1 j w := by decide +kernel
theorem chn_3_1_1 : ∀ j, j < 4 → ∀ w, w < 4 → chC 3 (seG 3 1) (cfG 3 1 1) j w = chM 3 1 1 j w := by decide +kernel
theorem chn_3_2_2 : ∀ j, j < 4 → ∀ w, w < 4 → chC 3 (seG 3 2) (cfG 3 2 2) j w = chM 3 2 2 j w := by decide +kernel
theorem chn_4_1_1 : ∀ j, j < 5 → ∀ w, w < 4 → chC 4 (seG 4 1) (cfG 4 1 1) j w = chM 4 1 1 j w := by decide +kernel
theorem chn_4_2_2 : ∀ j, j < 5 → ∀ w, w < 4 → chC 4 (seG 4 2) (cfG 4 2 2) j w = chM 4 2 2 j w := by decide +kernel
theorem chn_4_3_2 : ∀ j, j < 5 → ∀ w, w < 4 → chC 4 (seG 4 3) (cfG 4 3 2) j w = chM 4 3 2 j w := by decide +kernel
theorem chn_4_3_3 : ∀ j, j < 5 → ∀ w, w < 4 → chC 4 (seG 4 3) (cfG 4 3 3) j w = chM 4 3 3 j w := by decide +kernel
theorem chn_5_1_1 : ∀ j, j < 6 → ∀ w, w < 4 → chC 5 (seG 5 1) (cfG 5 1 1) j w = chM 5 1 1 j w := by decide +kernel
theorem chn_5_2_2 : ∀ j, j < 6 → ∀ w, w < 4 → chC 5 (seG 5 2) (cfG 5 2 2) j w = chM 5 2 2 j w := by decide +kernel
theorem chn_5_3_2 : ∀ j, j < 6 → ∀ w, w < 4 → chC 5 (seG 5 3) (cfG 5 3 2) j w = chM 5 3 2 j w := by decide +kernel
theorem chn_5_3_3 : ∀ j, j < 6 → ∀ w, w < 4 → chC 5 (seG 5 3) (cfG 5 3 3) j w = chM 5 3 3 j w := by decide +kernel
theorem chn_5_4_3 : ∀ j, j < 6 → ∀ w, w < 4 → chC 5 (seG 5 4) (cfG 5 4 3) j w = chM 5 4 3 j w := by decide +kernel
theorem chn_5_4_4 : ∀ j, j < 6 → ∀ w, w < 4 → chC 5 (seG 5 4) (cfG 5 4 4) j w = chM 5 4 4 j w := by decide +kernel
theorem chn_6_1_1 : ∀ j, j < 7 → ∀ w, w < 4 → chC 6 (seG 6 1) (cfG 6 1 1) j w = chM 6 1 1 j w := by decide +kernel
theorem chn_6_2_2 : ∀ j, j < 7 → ∀ w, w < 4 → chC 6 (seG 6 2) (cfG 6 2 2) j w = chM 6 2 2 j w := by decide +kernel
theorem chn_6_3_2 : ∀ j, j < 7 → ∀ w, w < 4 → chC 6 (seG 6 3) (cfG 6 3 2) j w = chM 6 3 2 j w := by decide +kernel
theorem chn_6_3_3 : ∀ j, j < 7 → ∀ w, w < 4 → chC 6 (seG 6 3) (cfG 6 3 3) j w = chM 6 3 3 j w := by decide +kernel
theorem chn_6_4_3 : ∀ j, j < 7 → ∀ w, w < 4 → chC 6 (seG 6 4) (cfG 6 4 3) j w = chM 6 4 3 j w := by decide +kernel
theorem chn_6_4_4 : ∀ j, j < 7 → ∀ w, w < 4 → chC 6 (seG 6 4) (cfG 6 4 4) j w = chM 6 4 4 j w := by decide +kernel
theorem chn_6_5_3 : ∀ j, j < 7 → ∀ w, w < 4 → chC 6 (seG 6 5) (cfG 6 5 3) j w = chM 6 5 3 j w := by decide +kernel
theorem chn_6_5_4 : ∀ j, j < 7 → ∀ w, w < 4 → chC 6 (seG 6 5) (cfG 6 5 4) j w = chM 6 5 4 j w := by decide +kernel
theorem chn_6_5_5 : ∀ j, j < 7 → ∀ w, w < 4 → chC 6 (seG 6 5) (cfG 6 5 5) j w = chM 6 5 5 j w := by decide +kernel
theorem chn_7_1_1 : ∀ j, j < 8 → ∀ w, w < 4 → chC 7 (seG 7 1) (cfG 7 1 1) j w = chM 7 1 1 j w := by decide +kernel
theorem chn_7_2_2 : ∀ j, j < 8 → ∀ w, w < 4 → chC 7 (seG 7 2) (cfG 7 2 2) j w = chM 7 2 2 j w := by decide +kernel
theorem chn_7_3_2 : ∀ j, j < 8 → ∀ w, w < 4 → chC 7 (seG 7 3) (cfG 7 3 2) j w = chM 7 3 2 j w := by decide +kernel
theorem chn_7_3_3 : ∀ j, j < 8 → ∀ w, w < 4 → chC 7 (seG 7 3) (cfG 7 3 3) j w = chM 7 3 3 j w := by decide +kernel
theorem chn_7_4_3 : ∀ j, j < 8 → ∀ w, w < 4 → chC 7 (seG 7 4) (cfG 7 4 3) j w = chM 7 4 3 j w := by decide +kernel
theorem chn_7_4_4 : ∀ j, j < 8 → ∀ w, w < 4 → chC 7 (seG 7 4) (cfG 7 4 4) j w = chM 7 4 4 j w := by decide +kernel
theorem chn_7_5_3 : ∀ j, j < 8 → ∀ w, w < 4 → chC 7 (seG 7 5) (cfG 7 5 3) j w = chM 7 5 3 j w := by decide +kernel
theorem chn_7_5_4 : ∀ j, j < 8 → ∀ w, w < 4 → chC 7 (seG 7 5) (cfG 7 5 4) j w = chM 7 5 4 j w := by decide +kernel
theorem chn_7_5_5 : ∀ j, j < 8 → ∀ w, w < 4 → chC 7 (seG 7 5) (cfG 7 5 5) j w = chM 7 5 5 j w := by decide +kernel
theorem chn_7_6_4 : ∀ j, j < 8 → ∀ w, w < 4 → chC 7 (seG 7 6) (cfG 7 6 4) j w = chM 7 6 4 j w := by decide +kernel
theorem chn_7_6_5 : ∀ j, j < 8 → ∀ w, w < 4 → chC 7 (seG 7 6) (cfG 7 6 5) j w = chM 7 6 5 j w := by decide +kernel
theorem chn_7_6_6 : ∀ j, j < 8 → ∀ w, w < 4 → chC 7 (seG 7 6) (cfG 7 6 6) j w = chM 7 6 6 j w := by decide +kernel
theorem chn_8_1_1 : ∀ j, j < 9 → ∀ w, w < 4 → chC 8 (seG 8 1) (cfG 8 1 1) j w = chM 8 1 1 j w := by decide +kernel
theorem chn_8_2_2 : ∀ j, j < 9 → ∀ w, w < 4 → chC 8 (seG 8 2) (cfG 8 2 2) j w = chM 8 2 2 j w := by decide +kernel
theorem chn_8_3_2 : ∀ j, j < 9 → ∀ w, w < 4 → chC 8 (seG 8 3) (cfG 8 3 2) j w = chM 8 3 2 j w := by decide +kernel
theorem chn_8_3_3 : ∀ j, j < 9 → ∀ w, w < 4 → chC 8 (seG 8 3) (cfG 8 3 3) j w = chM 8 3 3 j w := by decide +kernel
theorem chn_8_4_3 : ∀ j, j < 9 → ∀ w, w < 4 → chC 8 (seG 8 4) (cfG 8 4 3) j w = chM 8 4 3 j w := by decide +kernel
theorem chn_8_4_4 : ∀ j, j < 9 → ∀ w, w < 4 → chC 8 (seG 8 4) (cfG 8 4 4) j w = chM 8 4 4 j w := by decide +kernel
theorem chn_8_5_3 : ∀ j, j < 9 → ∀ w, w < 4 → chC 8 (seG 8 5) (cfG 8 5 3) j w = chM 8 5 3 j w := by decide +kernel
theorem chn_8_5_4 : ∀ j, j < 9 → ∀ w, w < 4 → chC 8 (seG 8 5) (cfG 8 5 4) j w = chM 8 5 4 j w := by decide +kernel
theorem chn_8_5_5 : ∀ j, j < 9 → ∀ w, w < 4 → chC 8 (seG 8 5) (cfG 8 5 5) j w = chM 8 5 5 j w := by decide +kernel
theorem chn_8_6_4 : ∀ j, j < 9 → ∀ w, w < 4 → chC 8 (seG 8 6) (cfG 8 6 4) j w = chM 8 6 4 j w := by decide +kernel
theorem chn_8_6_5 : ∀ j, j < 9 → ∀ w, w < 4 → chC 8 (seG 8 6) (cfG 8 6 5) j w = chM 8 6 5 j w := by decide +kernel
theorem chn_8_6_6 : ∀ j, j < 9 → ∀ w, w < 4 → chC 8 (seG 8 6) (cfG 8 6 6) j w = chM 8 6 6 j w := by decide +kernel
theorem chn_8_7_4 : ∀ j, j < 9 → ∀ w, w < 4 → chC 8 (seG 8 7) (cfG 8 7 4) j w = chM 8 7 4 j w := by decide +kernel
theorem chn_8_7_5 : ∀ j, j < 9 → ∀ w, w < 4 → chC 8 (seG 8 7) (cfG 8 7 5) j w = chM 8 7 5 j w := by decide +kernel
theorem chn_8_7_6 : ∀ j, j < 9 → ∀ w, w < 4 → chC 8 (seG 8 7) (cfG 8 7 6) j w = chM 8 7 6 j w := by decide +kernel
theorem chn_8_7_7 : ∀ j, j < 9 → ∀ w, w < 4 → chC 8 (seG 8 7) (cfG 8 7 7) j w = chM 8 7 7 j w := by decide +kernel
theorem chn_all {n k al be en : Nat} (hG : GP n k al be en) : ∀ j, j ≤ n → ∀ w, w < 4 → chC n (seG n k) (cfG n k al) j w = chM n k al j w := by
  obtain ⟨⟨hn2, hn8⟩, ⟨hk1, hkn⟩, ⟨ha1, hak, hal⟩, _⟩ := hG
  intro j hj w hw
  rcases (show (n = 2 ∧ k = 1 ∧ al = 1) ∨ (n = 3 ∧ k = 1 ∧ al = 1) ∨ (n = 3 ∧ k = 2 ∧ al = 2) ∨ (n = 4 ∧ k = 1 ∧ al = 1) ∨ (n = 4 ∧ k = 2 ∧ al = 2) ∨ (n = 4 ∧ k = 3 ∧ al = 2) ∨ (n = 4 ∧ k = 3 ∧ al = 3) ∨ (n = 5 ∧ k = 1 ∧ al = 1) ∨ (n = 5 ∧ k = 2 ∧ al = 2) ∨ (n = 5 ∧ k = 3 ∧ al = 2) ∨ (n = 5 ∧ k = 3 ∧ al = 3) ∨ (n = 5 ∧ k = 4 ∧ al = 3) ∨ (n = 5 ∧ k = 4 ∧ al = 4) ∨ (n = 6 ∧ k = 1 ∧ al = 1) ∨ (n = 6 ∧ k = 2 ∧ al = 2) ∨ (n = 6 ∧ k = 3 ∧ al = 2) ∨ (n = 6 ∧ k = 3 ∧ al = 3) ∨ (n = 6 ∧ k = 4 ∧ al = 3) ∨ (n = 6 ∧ k = 4 ∧ al = 4) ∨ (n = 6 ∧ k = 5 ∧ al = 3) ∨ (n = 6 ∧ k = 5 ∧ al = 4) ∨ (n = 6 ∧ k = 5 ∧ al = 5) ∨ (n = 7 ∧ k = 1 ∧ al = 1) ∨ (n = 7 ∧ k = 2 ∧ al = 2) ∨ (n = 7 ∧ k = 3 ∧ al = 2) ∨ (n = 7 ∧ k = 3 ∧ al = 3) ∨ (n = 7 ∧ k = 4 ∧ al = 3) ∨ (n = 7 ∧ k = 4 ∧ al = 4) ∨ (n = 7 ∧ k = 5 ∧ al = 3) ∨ (n = 7 ∧ k = 5 ∧ al = 4) ∨ (n = 7 ∧ k = 5 ∧ al = 5) ∨ (n = 7 ∧ k = 6 ∧ al = 4) ∨ (n = 7 ∧ k = 6 ∧ al = 5) ∨ (n = 7 ∧ k = 6 ∧ al = 6) ∨ (n = 8 ∧ k = 1 ∧ al = 1) ∨ (n = 8 ∧ k = 2 ∧ al = 2) ∨ (n = 8 ∧ k = 3 ∧ al = 2) ∨ (n = 8 ∧ k = 3 ∧ al = 3) ∨ (n = 8 ∧ k = 4 ∧ al = 3) ∨ (n = 8 ∧ k = 4 ∧ al = 4) ∨ (n = 8 ∧ k = 5 ∧ al = 3) ∨ (n = 8 ∧ k = 5 ∧ al = 4) ∨ (n = 8 ∧ k = 5 ∧ al = 5) ∨ (n = 8 ∧ k = 6 ∧ al = 4) ∨ (n = 8 ∧ k = 6 ∧ al = 5) ∨ (n = 8 ∧ k = 6 ∧ al = 6) ∨ (n = 8 ∧ k = 7 ∧ al = 4) ∨ (n = 8 ∧ k = 7 ∧ al = 5) ∨ (n = 8 ∧ k = 7 ∧ al = 6) ∨ (n = 8 ∧ k = 7 ∧ al = 7) by omega) with ⟨rfl, rfl, rfl⟩ | ⟨rfl, rfl, rfl⟩ | ⟨rfl, rfl, rfl⟩ | ⟨rfl, rfl, rfl⟩ | ⟨rfl, rfl, rfl⟩ | ⟨rfl, rfl, rfl⟩ | ⟨rfl, rfl, rfl⟩ | ⟨rfl, rfl, rfl⟩ | ⟨rfl, rfl, rfl⟩ | ⟨rfl, rfl, rfl⟩ | ⟨rfl, rfl, rfl⟩ | ⟨rfl, rfl, rfl⟩ | ⟨rfl, rfl, rfl⟩ | ⟨rfl, rfl, rfl⟩ | ⟨rfl, rfl, rfl⟩ | ⟨rfl, rfl, rfl⟩ | ⟨rfl, rfl, rfl⟩ | ⟨rfl, rfl, rfl⟩ | ⟨rfl, rfl, rfl⟩ | ⟨rfl, rfl, rfl⟩ | ⟨rfl, rfl, rfl⟩ | ⟨rfl, rfl, rfl⟩ | ⟨rfl, rfl, rfl⟩ | ⟨rfl, rfl, rfl⟩ | ⟨rfl, rfl, rfl⟩ | ⟨rfl, rfl, rfl⟩ | ⟨rfl, rfl, rfl⟩ | ⟨rfl, rfl, rfl⟩ | ⟨rfl, rfl, rfl⟩ | ⟨rfl, rfl, rfl⟩ | ⟨rfl, rfl, rfl⟩ | ⟨rfl, rfl, rfl⟩ | ⟨rfl, rfl, rfl⟩ | ⟨rfl, rfl, rfl⟩ | ⟨rfl, rfl, rfl⟩ | ⟨rfl, rfl, rfl⟩ | ⟨rfl, rfl, rfl⟩ | ⟨rfl, rfl, rfl⟩ | ⟨rfl, rfl, rfl⟩ | ⟨rfl, rfl, rfl⟩ | ⟨rfl, rfl, rfl⟩ | ⟨rfl, rfl, rfl⟩ | ⟨rfl, rfl, rfl⟩ | ⟨rfl, rfl, rfl⟩ | ⟨rfl, rfl, rfl⟩ | ⟨rfl, rfl, rfl⟩ | ⟨rfl, rfl, rfl⟩ | ⟨rfl, rfl, rfl⟩ | ⟨rfl, rfl, rfl⟩ | ⟨rfl, rfl, rfl⟩
  · exact chn_2_1_1 j (by omega) w hw
  · exact chn_3_1_1 j (by omega) w hw
  · exact chn_3_2_2 j (by omega) w hw
  · exact chn_4_1_1 j (by omega) w hw
  · exact chn_4_2_2 j (by omega) w hw
  · exact chn_4_3_2 j (by omega) w hw
  · exact chn_4_3_3 j (by omega) w hw
  · exact chn_5_1_1 j (by omega) w hw
  · exact chn_5_2_2 j (by omega) w hw
  · exact chn_5_3_2 j (by omega) w hw
  · exact chn_5_3_3 j (by omega) w hw
  · exact chn_5_4_3 j (by omega) w hw
  · exact chn_5_4_4 j (by omega) w hw
  · exact chn_6_1_1 j (by omega) w hw
  · exact chn_6_2_2 j (by omega) w hw
  · exact chn_6_3_2 j (by omega) w hw
  · exact chn_6_3_3 j (by omega) w hw
  · exact chn_6_4_3 j (by omega) w hw
  · exact chn_6_4_4 j (by omega) w hw
  · exact chn_6_5_3 j (by omega) w hw
  · exact chn_6_5_4 j (by omega) w hw
  · exact chn_6_5_5 j (by omega) w hw
  · exact chn_7_1_1 j (by omega) w hw
  · exact chn_7_2_2 j (by omega) w hw
  · exact chn_7_3_2 j (by omega) w hw
  · exact chn_7_3_3 j (by omega) w hw
  · exact chn_7_4_3 j (by omega) w hw
  · exact chn_7_4_4 j (by omega) w hw
  · exact chn_7_5_3 j (by omega) w hw
  · exact chn_7_5_4 j (by omega) w hw
  · exact chn_7_5_5 j (by omega) w hw
  · exact chn_7_6_4 j (by omega) w hw
  · exact chn_7_6_5 j (by omega) w hw
  · exact chn_7_6_6 j (by omega) w hw
  · exact chn_8_1_1 j (by omega) w hw
  · exact chn_8_2_2 j (by omega) w hw
  · exact chn_8_3_2 j (by omega) w hw
  · exact chn_8_3_3 j (by omega) w hw
  · exact chn_8_4_3 j (by omega) w hw
  · exact chn_8_4_4 j (by omega) w hw
  · exact chn_8_5_3 j (by omega) w hw
  · exact chn_8_5_4 j (by omega) w hw
  · exact chn_8_5_5 j (by omega) w hw
  · exact chn_8_6_4 j (by omega) w hw
  · exact chn_8_6_5 j (by omega) w hw
  · exact chn_8_6_6 j (by omega) w hw
  · exact chn_8_7_4 j (by omega) w hw
  · exact chn_8_7_5 j (by omega) w hw
  · exact chn_8_7_6 j (by omega) w hw
  · exact chn_8_7_7 j (by omega) w hw

theorem br_chain {n k al be en : Nat} {x y : Int32} {r r2 : Int64} {cN : Nat → Nat} {cF : Nat → Nat → Int32} (hG : GP n k al be en) (hR : RelH n k al cN cF) (hc : (∃ j w, j ≤ n ∧ w < 4 ∧ x = nI j ∧ y = nI w ∧ r = chC n (cN 0) (cF 14) j w) ∨ (¬ chok n x y ∧ r = -1)) (hm : (∃ j w, j ≤ n ∧ w < 4 ∧ x = nI j ∧ y = nI w ∧ r2 = chM n k al j w) ∨ (¬ chok n x y ∧ r2 = -1)) (hse : cN 0 ≤ 35) : r = r2 := by
  have ok : ∀ j w, j ≤ n → w < 4 → x = nI j → y = nI w → chok n x y := fun j w hj hw e1 e2 => by
    have := hG.1.2
    subst e1
    subst e2
    exact ⟨Int32.not_lt.mpr ((nI_leI (a := 0) (by decide) (by omega)).mpr (Nat.zero_le _)), (nI_leI (by omega) (by omega)).mpr hj, Int32.not_lt.mpr ((nI_leI (a := 0) (by decide) (by omega)).mpr (Nat.zero_le _)), (nI_leI (by omega) (by decide)).mpr (by omega)⟩
  have hn8 := hG.1.2
  have hse2 : cN 0 = seG n k := by unfold seG; rw [hR.2, nI_clamp (by omega)]
  rcases hc with ⟨j, w, hj, hw, hx, hy, hr⟩ | ⟨hn, hr⟩
  · rcases hm with ⟨j', w', hj', hw', hx', hy', hr'⟩ | ⟨hn', _⟩
    · obtain rfl : j = j' := (nI_eq (by omega) (by omega)).mp (hx.symm.trans hx')
      obtain rfl : w = w' := (nI_eq (by omega) (by omega)).mp (hy.symm.trans hy')
      rw [hr, hr', hse2, ch_cf (cf' := cfG n k al) hR.1 (by have := hG.1.1; omega)]
      exact chn_all hG j hj w hw
    · exact absurd (ok j w hj hw hx hy) hn'
  · rcases hm with ⟨j', w', hj', hw', hx', hy', _⟩ | ⟨_, hr'⟩
    · exact absurd (ok j' w' hj' hw' hx' hy') hn
    · rw [hr, hr']
