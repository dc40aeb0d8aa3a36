/-! a node as six numbers: 0 colour, 1 last (1 more than they are), 2 counter, 3 4 confidence, 5 decided -/
def setU (u : Nat → Nat) (i v : Nat) : Nat → Nat := fun q => if q = i then v else u q
theorem setU_eq (u : Nat → Nat) (i v : Nat) : setU u i v i = v := if_pos rfl
theorem setU_ne (u : Nat → Nat) {i j : Nat} (v : Nat) (h : ¬ j = i) : setU u i v j = u j := if_neg h
def flkU (W : Nat) (u : Nat → Nat) : Nat → Nat := if W = u 0 then setU u 2 (u 2 + 1) else setU (setU u 0 W) 2 1
def bpU (W : Nat) (u : Nat → Nat) : Nat → Nat := setU u (2 + W) (if 999 < u (2 + W) + 1 then 999 else u (2 + W) + 1)
def bcU (W : Nat) (u : Nat → Nat) : Nat → Nat := if (bpU W u) (2 + (bpU W u) 0) < (bpU W u) (2 + W) then setU (bpU W u) 0 W else bpU W u
def balU (W : Nat) (u : Nat → Nat) : Nat → Nat := if W = (bcU W u) 1 then setU (bcU W u) 2 ((bcU W u) 2 + 1) else setU (setU (bcU W u) 1 W) 2 1
def nxtU (pr : Int32) (W : Nat) (u : Nat → Nat) : Nat → Nat := if pr = nI 1 then flkU W u else balU W u
def uSet (pr : Int32) (be W : Nat) (u : Nat → Nat) : Nat → Nat := if pr = 0 then (if W = 0 then u else setU u 0 W) else if W = 0 then setU u 2 0 else if (nxtU pr W u) 2 < be then nxtU pr W u else setU (nxtU pr W u) 5 1
def ansU (u v : Nat → Nat) : Nat := if v 5 = 0 then (if u 0 = v 0 then 0 else 1) else 2
def winU (al z o : Nat) : Nat := if z < al then (if o < al then 0 else 2) else 1
/-- the word x is of these numbers, and holds nothing else -/
def isU (x : Int32) (u : Nat → Nat) : Prop := fld 0 2 x = u 0 ∧ fld 2 2 x = u 1 ∧ fld 4 4 x = u 2 ∧ fld 8 10 x = u 3 ∧ fld 18 10 x = u 4 ∧ fld 28 1 x = u 5 ∧ fld 29 3 x = 0
/-- numbers that a node may have -/
def okU (be : Nat) (u : Nat → Nat) : Prop := u 0 < 3 ∧ u 1 < 3 ∧ u 2 ≤ 15 ∧ u 3 ≤ 999 ∧ u 4 ≤ 999 ∧ u 5 < 2 ∧ (u 5 = 0 → u 2 < be)
theorem isU.c {x : Int32} {u : Nat → Nat} (h : isU x u) {v : Nat} (hv : v < 3) : isU (wtC x (cI v)) (setU u 0 v) := by
  have s := wtC_set (x := x) hv
  obtain ⟨h0, h1, h2, h3, h4, h5, h6⟩ := h
  exact ⟨s.get (by decide) (by omega), by rw [s.keep (by decide) (by decide), h1]; rfl, by rw [s.keep (by decide) (by decide), h2]; rfl, by rw [s.keep (by decide) (by decide), h3]; rfl, by rw [s.keep (by decide) (by decide), h4]; rfl, by rw [s.keep (by decide) (by decide), h5]; rfl, by rw [s.keep (by decide) (by decide), h6]⟩
theorem isU.l {x : Int32} {u : Nat → Nat} (h : isU x u) {v : Nat} (hv : v < 3) : isU (wlF x (cI v)) (setU u 1 v) := by
  have s := wl_set (x := x) hv
  obtain ⟨h0, h1, h2, h3, h4, h5, h6⟩ := h
  exact ⟨by rw [s.keep (by decide) (by decide), h0]; rfl, s.get (by decide) (by omega), by rw [s.keep (by decide) (by decide), h2]; rfl, by rw [s.keep (by decide) (by decide), h3]; rfl, by rw [s.keep (by decide) (by decide), h4]; rfl, by rw [s.keep (by decide) (by decide), h5]; rfl, by rw [s.keep (by decide) (by decide), h6]⟩
theorem isU.n {x : Int32} {u : Nat → Nat} (h : isU x u) {v : Nat} (hv : v < 16) : isU (wcF x (nI v)) (setU u 2 v) := by
  have s := wc_set (x := x) hv
  obtain ⟨h0, h1, h2, h3, h4, h5, h6⟩ := h
  exact ⟨by rw [s.keep (by decide) (by decide), h0]; rfl, by rw [s.keep (by decide) (by decide), h1]; rfl, s.get (by decide) (by omega), by rw [s.keep (by decide) (by decide), h3]; rfl, by rw [s.keep (by decide) (by decide), h4]; rfl, by rw [s.keep (by decide) (by decide), h5]; rfl, by rw [s.keep (by decide) (by decide), h6]⟩
theorem isU.f {x : Int32} {u : Nat → Nat} (h : isU x u) {W v : Nat} (hW : W = 1 ∨ W = 2) (hv : v < 1024) : isU (wfF x (cI W) (nI v)) (setU u (2 + W) v) := by
  obtain ⟨h0, h1, h2, h3, h4, h5, h6⟩ := h
  rcases hW with rfl | rfl
  · have s := wf_set (x := x) (u := 0) (by decide) hv
    have e : cI 1 = nI 0 := by decide
    rw [e]
    exact ⟨by rw [s.keep (by decide) (by decide), h0]; rfl, by rw [s.keep (by decide) (by decide), h1]; rfl, by rw [s.keep (by decide) (by decide), h2]; rfl, s.get (by decide) (by omega), by rw [s.keep (by decide) (by decide), h4]; rfl, by rw [s.keep (by decide) (by decide), h5]; rfl, by rw [s.keep (by decide) (by decide), h6]⟩
  · have s := wf_set (x := x) (u := 1) (by decide) hv
    have e : cI 2 = nI 1 := by decide
    rw [e]
    exact ⟨by rw [s.keep (by decide) (by decide), h0]; rfl, by rw [s.keep (by decide) (by decide), h1]; rfl, by rw [s.keep (by decide) (by decide), h2]; rfl, by rw [s.keep (by decide) (by decide), h3]; rfl, s.get (by decide) (by omega), by rw [s.keep (by decide) (by decide), h5]; rfl, by rw [s.keep (by decide) (by decide), h6]⟩
theorem isU.d {x : Int32} {u : Nat → Nat} (h : isU x u) : isU (wdF x) (setU u 5 1) := by
  have s := wd_set x
  obtain ⟨h0, h1, h2, h3, h4, h5, h6⟩ := h
  exact ⟨by rw [s.keep (by decide) (by decide), h0]; rfl, by rw [s.keep (by decide) (by decide), h1]; rfl, by rw [s.keep (by decide) (by decide), h2]; rfl, by rw [s.keep (by decide) (by decide), h3]; rfl, by rw [s.keep (by decide) (by decide), h4]; rfl, s.get (by decide) (by decide), by rw [s.keep (by decide) (by decide), h6]⟩
theorem isU.col {x : Int32} {u : Nat → Nat} (h : isU x u) : colF x = cI (u 0) := by rw [col_fld, h.1]
theorem isU.las {x : Int32} {u : Nat → Nat} (h : isU x u) : lasF x = cI (u 1) := by rw [las_fld, h.2.1]
theorem isU.cnt {x : Int32} {u : Nat → Nat} (h : isU x u) : cntF x = nI (u 2) := by rw [cnt_fld, h.2.2.1]
theorem isU.cof {x : Int32} {u : Nat → Nat} (h : isU x u) {W : Nat} (hW : W = 1 ∨ W = 2) : cofF x (cI W) = nI (u (2 + W)) := by
  rcases hW with rfl | rfl
  · have e : cI 1 = nI 0 := by decide
    rw [e, cof_fld x (u := 0) (by decide), h.2.2.2.1]
  · have e : cI 2 = nI 1 := by decide
    rw [e, cof_fld x (u := 1) (by decide), h.2.2.2.2.1]
theorem isU.dec {x : Int32} {u : Nat → Nat} (h : isU x u) : x &&& dcM = 0 ↔ u 5 = 0 := by rw [dec_fld, h.2.2.2.2.2.1]
theorem isU.flk {x : Int32} {u : Nat → Nat} (h : isU x u) {W : Nat} (hW : W = 1 ∨ W = 2) (h0 : u 0 < 3) (h2 : u 2 < 15) : isU (flkF x (cI W)) (flkU W u) := by
  unfold flkF flkU
  by_cases q : W = u 0
  · rw [if_pos q, if_pos (by rw [h.col, q]), h.cnt, nI_add]
    exact h.n (by omega)
  · rw [if_neg q, if_neg (fun z => q (cI_inj (by omega) h0 (by rw [z, h.col])))]
    exact (h.c (v := W) (by omega)).n (v := 1) (by decide)
theorem bp_ok {u : Nat → Nat} {W : Nat} (h3 : u 3 ≤ 999) (h4 : u 4 ≤ 999) : (bpU W u) 3 ≤ 999 ∧ (bpU W u) 4 ≤ 999 := by
  unfold bpU setU
  constructor
  · split
    · split <;> omega
    · exact h3
  · split
    · split <;> omega
    · exact h4
theorem isU.bal {x : Int32} {u : Nat → Nat} (h : isU x u) {W : Nat} (hW : W = 1 ∨ W = 2) (h0 : u 0 = 1 ∨ u 0 = 2) (h1 : u 1 < 3) (h2 : u 2 < 15) (h3 : u 3 ≤ 999) (h4 : u 4 ≤ 999) : isU (balF x (cI W)) (balU W u) := by
  have hb : u (2 + W) ≤ 999 := by rcases hW with rfl | rfl <;> assumption
  have e1 : b1F x (cI W) = nI (if 999 < u (2 + W) + 1 then 999 else u (2 + W) + 1) := by
    unfold b1F
    rw [h.cof hW, nI_add]
    by_cases q : 999 < u (2 + W) + 1
    · rw [if_pos q, if_pos (nI_lt q (by omega))]
    · rw [if_neg q, if_neg (fun z => q ((nI_ltI (by decide) (by omega)).mp z))]
  have g2 : isU (b2F x (cI W)) (bpU W u) := by
    unfold b2F bpU
    rw [e1]
    exact h.f hW (by split <;> omega)
  have bo := bp_ok (W := W) h3 h4
  have c0 : (bpU W u) 0 = u 0 := by unfold bpU; rw [setU_ne _ _ (by omega)]
  have c1 : (bpU W u) 1 = u 1 := by unfold bpU; rw [setU_ne _ _ (by omega)]
  have c2 : (bpU W u) 2 = u 2 := by unfold bpU; rw [setU_ne _ _ (by omega)]
  have eW : (bpU W u) (2 + W) = (if 999 < u (2 + W) + 1 then 999 else u (2 + W) + 1) := by unfold bpU; rw [setU_eq]
  have bW : (bpU W u) (2 + W) ≤ 999 := by rcases hW with rfl | rfl; exact bo.1; exact bo.2
  have bC : (bpU W u) (2 + (bpU W u) 0) ≤ 999 := by rw [c0]; rcases h0 with q | q <;> rw [q]; exact bo.1; exact bo.2
  have g3 : isU (b3F x (cI W)) (bcU W u) := by
    unfold b3F bcU
    rw [g2.col, g2.cof (by rw [c0]; exact h0), e1, ← eW]
    by_cases q : (bpU W u) (2 + (bpU W u) 0) < (bpU W u) (2 + W)
    · rw [if_pos q, if_pos (nI_lt q (by omega))]
      exact g2.c (by omega)
    · rw [if_neg q, if_neg (fun z => q ((nI_ltI (by omega) (by omega)).mp z))]
      exact g2
  have d1 : (bcU W u) 1 = u 1 := by
    unfold bcU
    split
    · rw [setU_ne _ _ (by decide)]; exact c1
    · exact c1
  have d2 : (bcU W u) 2 = u 2 := by
    unfold bcU
    split
    · rw [setU_ne _ _ (by decide)]; exact c2
    · exact c2
  unfold balF balU
  by_cases q : W = (bcU W u) 1
  · rw [if_pos q, if_pos (by rw [g3.las, ← q]), g3.cnt, nI_add]
    exact g3.n (by omega)
  · rw [if_neg q, if_neg (fun z => q (cI_inj (by omega) (by omega) (by rw [z, g3.las])))]
    exact (g3.l (v := W) (by omega)).n (v := 1) (by decide)
theorem isU.set {x : Int32} {u : Nat → Nat} (h : isU x u) {pr : Int32} {be W : Nat} (hW : W < 3) (h0 : u 0 = 1 ∨ u 0 = 2) (h1 : u 1 < 3) (h2 : u 2 < be) (hbe : be ≤ 15) (h3 : u 3 ≤ 999) (h4 : u 4 ≤ 999) : isU (setF pr be x (cI W)) (uSet pr be W u) := by
  have eN : ∀ W, W < 3 → (cI W = -1 ↔ W = 0) := by decide
  unfold setF uSet
  by_cases p0 : pr = 0
  · rw [if_pos p0, if_pos p0]
    by_cases w : W = 0
    · rw [if_pos w, if_pos ((eN W hW).mpr w)]; exact h
    · rw [if_neg w, if_neg (fun z => w ((eN W hW).mp z))]; exact h.c hW
  · rw [if_neg p0, if_neg p0]
    by_cases w : W = 0
    · rw [if_pos w, if_pos ((eN W hW).mpr w)]; exact h.n (v := 0) (by decide)
    · rw [if_neg w, if_neg (fun z => w ((eN W hW).mp z))]
      have hW2 : W = 1 ∨ W = 2 := by omega
      have g : isU (nxtF pr x (cI W)) (nxtU pr W u) := by
        unfold nxtF nxtU
        by_cases p1 : pr = nI 1
        · rw [if_pos p1, if_pos p1]; exact h.flk hW2 (by omega) (by omega)
        · rw [if_neg p1, if_neg p1]; exact h.bal hW2 h0 h1 (by omega) h3 h4
      have b15 : (nxtU pr W u) 2 < 16 := by rw [← g.2.2.1]; exact fld_lt 4 4 _
      rw [g.cnt]
      by_cases q : (nxtU pr W u) 2 < be
      · rw [if_pos q, if_pos (nI_lt q (by omega))]; exact g
      · rw [if_neg q, if_neg (fun z => q ((nI_ltI (by omega) (by omega)).mp z))]; exact g.d
theorem isU.chg {x y : Int32} {u v : Nat → Nat} (h : isU x u) (g : isU y v) (h0 : u 0 < 3) (g0 : v 0 < 3) : chgF x y = nI (ansU u v) := by
  unfold chgF ansU
  by_cases q : v 5 = 0
  · rw [if_pos q, if_pos (g.dec.mpr q), h.col, g.col]
    by_cases w : u 0 = v 0
    · rw [if_pos w, if_pos (by rw [w])]
    · rw [if_neg w, if_neg (fun z => w (cI_inj h0 g0 z))]
  · rw [if_neg q, if_neg (fun z => q (g.dec.mp z))]
