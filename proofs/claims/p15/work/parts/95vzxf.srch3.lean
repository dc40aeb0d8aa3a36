/-! a node's samples, one after the other, as the class goes through them -/
theorem okF_askM {n be al a : Nat} {pr : Int32} {f : Nat → Int32} {S : Int32} (h : okF f) (ha : a < 8) (hn : n ≤ 8) (hbe : 1 ≤ be ∧ be ≤ 15) (ok : okS be f) (hm : mcaP f a) : okF (askM n al be pr f a S) := by
  have cu := can_u (ok a ha).1 (ok a ha).2 hbe.2 hm
  have hna := (ok a ha).1.neg cu.1
  have hW3 : winU al (askL f S a n).2.1 (askL f S a n).2.2 < 3 := by unfold winU; split <;> (try split) <;> omega
  have us := uSet_ok (pr := pr) hW3 hbe (ok a ha).2 cu.1 cu.2.1
  have up : ∀ j, 8 ≤ j → (askL f S a n).1 j = f j := fun j hj => askL_up ha hna hn j hj
  have far : ∀ j, 48 ≤ j → askM n al be pr f a S j = f j := fun j hj => by
    unfold askM
    rw [putU_oth _ _ _ j (by omega) (by omega) (by omega) (by omega) (by omega) (by omega)]
    exact up j (by omega)
  have row : rowU (askM n al be pr f a S) a (askV n al be pr f a S) := putU_row _ _ _
  have vs : askV n al be pr f a S 0 = 1 ∨ askV n al be pr f a S 0 = 2 := us.2
  refine ⟨fun j hj h1 => ?_, fun i j hi hj => by rw [far _ (by omega), far _ (by omega)]; exact h.2 i j hi hj⟩
  by_cases q : j = a
  · rw [q]
    exact row.neg vs
  · have e40 : askM n al be pr f a S (40 + j) = f (40 + j) := by
      unfold askM
      rw [putU_oth _ _ _ _ (by omega) (by omega) (by omega) (by omega) (by omega) (by omega)]
      exact up _ (by omega)
    rw [e40] at h1
    have h0 := h.1 j hj h1
    have e0 : askM n al be pr f a S (0 + j) = f (0 + j) := by
      unfold askM
      rw [putU_oth _ _ _ _ (by omega) (by omega) (by omega) (by omega) (by omega) (by omega), askL_row ha hna n hn (0 + j), if_pos (by omega)]
      unfold givM
      rw [if_neg (fun z => h0 (by have z5 := z.2.2.2.2; rw [Nat.zero_add (0 + j)] at z5; exact z5))]
    rw [e0]
    exact h0
theorem lisI_congr {n i : Nat} {lf kf f f' : Nat → Int32} {u1 u2 u3 : Int32} (hn : n ≤ 8) (hi : i < 8) (h : lisI n i lf kf f 0 u1 u2 u3) (e : ∀ j, j < 8 → f' j = f j) : lisI n i lf kf f' 0 u1 u2 u3 := fun k hk => by
  obtain ⟨h1, h2, h3⟩ := h k hk
  have ei : f' (0 + i) = f (0 + i) := e _ (by omega)
  unfold lisP blkP at *
  refine ⟨h1.trans ?_, h2.trans ?_, h3.trans ?_⟩
  · constructor <;> rintro ⟨q, q1, q2, q3⟩ <;> refine ⟨q, q1, q2, ?_⟩
    · rw [e (0 + k) (by omega), ei]; exact q3
    · rw [e (0 + k) (by omega), ei] at q3; exact q3
  · constructor <;> rintro ⟨q, q1, q2, q3⟩ <;> refine ⟨q, q1, q2, ?_⟩
    · rw [e (0 + k) (by omega), ei]; exact q3
    · rw [e (0 + k) (by omega), ei] at q3; exact q3
  · constructor <;> rintro ⟨q, q1, q2, q3, q4⟩ <;> refine ⟨q, q1, q2, q3, ?_⟩
    · rw [e (0 + k) (by omega)]; exact q4
    · rw [e (0 + k) (by omega)] at q4; exact q4
/-- the same, of a row that begins at b -/
theorem lisI_base {n i b : Nat} {lf kf f : Nat → Int32} {u1 u2 u3 : Int32} (h : lisI n i lf kf f b u1 u2 u3) : lisI n i lf kf (fun j => f (b + j)) 0 u1 u2 u3 := fun k hk => by
  obtain ⟨h1, h2, h3⟩ := h k hk
  unfold lisP blkP at *
  simp only [Nat.zero_add]
  exact ⟨h1, h2, h3⟩
theorem winF_W (al : Nat) (x y : Int32) : ∃ W, W < 3 ∧ winF al x y = cI W := by
  unfold winF
  split
  · split
    · exact ⟨0, by decide, by decide⟩
    · exact ⟨1, by decide, by decide⟩
  · exact ⟨2, by decide, by decide⟩
theorem mark_W {W : Nat} (hW : W < 3) : (nI 1) <<< ((cI W + nI 1) &&& 31) = bitI W := by rw [cI_add hW]
theorem has_of_and {x : Int32} {W : Nat} (hW : W < 3) (h : ¬ x &&& bitI W = 0) : hasB x W := Decidable.byContradiction (fun c => h (hasB_ext (fun k hk => by
  rw [hasB_and hk, hasB_bit (by omega) hk]
  exact ⟨fun q => absurd (q.2 ▸ q.1) c, fun q => absurd q (hasB_0 hk)⟩)))
theorem and_z {x y : Int32} (h : x = 0) : x &&& y = 0 := hasB_ext (fun k hk => by
  rw [hasB_and hk, h]
  exact ⟨fun q => absurd q.1 (hasB_0 hk), fun q => absurd q (hasB_0 hk)⟩)
theorem set_z {n i : Nat} {z y c V : Int32} {f f2 : Nat → Int32} (hz : z = 0) (h : ∀ j, j < 32 → f2 j = upd (givF n (z &&& y) c f) i V j) (j : Nat) (hj : j < 8) : f2 j = upd f i V j := by
  rw [h j (by omega)]
  unfold upd
  by_cases q : j = i
  · rw [if_pos q, if_pos q]
  · rw [if_neg q, if_neg q]
    exact (givF_z (n := n) (givF_0 (z &&& y) c f) (and_z hz) j (by omega)).symm
theorem smL_mem {n k i o : Nat} (ho : o < (smL n k i (2 ^ n)).length) : (smL n k i (2 ^ n)).getD o 0 < 2 ^ n ∧ smB n k i ((smL n k i (2 ^ n)).getD o 0) = true := by
  have e : (smL n k i (2 ^ n)).getD o 0 = (smL n k i (2 ^ n))[o] := by rw [List.getD_eq_getElem?_getD, List.getElem?_eq_getElem ho]; rfl
  have m : (smL n k i (2 ^ n))[o] ∈ smL n k i (2 ^ n) := List.getElem_mem ho
  rw [e]
  have z := List.mem_filter.mp m
  exact ⟨List.mem_range.mp z.1, z.2⟩
theorem smL_take {n k i o : Nat} (ho : o < (smL n k i (2 ^ n)).length) : (smL n k i (2 ^ n)).take (o + 1) = (smL n k i (2 ^ n)).take o ++ [(smL n k i (2 ^ n)).getD o 0] := by
  have e : (smL n k i (2 ^ n)).getD o 0 = (smL n k i (2 ^ n))[o] := by rw [List.getD_eq_getElem?_getD, List.getElem?_eq_getElem ho]; rfl
  rw [e, List.take_succ_eq_append_getElem ho]
/-- where it stands, in front of the o-th sample -/
def opI (n k al be : Nat) (pr : Int32) (kf lf rf : Nat → Int32) (sz : Nat) (A : srS) (v i : Nat) (few z3 : Int32) (o : Nat) (m9 : Int32) (c1 c2 c3 : Nat → Int32) (gz : Nat) (gf : Int32) : Prop := ∃ B, srO n al be pr v i ((smL n k i (2 ^ n)).take o) A B ∧ gf = few ∧ srI n be kf lf c1 c2 c3 gz B ∧ sz ≤ gz ∧ (∀ j, j < sz * 8 → c1 j = rf j) ∧
  (z3 = 0 → ∀ W, W < 3 → hasB m9 W → ∃ m, m < gz ∧ rwE c1 m (upd (fun j => rf (v * 8 + j)) i (setF pr be (rf (v * 8 + i)) (cI W))))
/-- what it comes to -/
def opR (n k al be : Nat) (pr : Int32) (kf lf rf : Nat → Int32) (sz : Nat) (A : srS) (v i : Nat) (few r fewz : Int32) (rz fz pz : Nat → Int32) (zz : Nat) : Prop := ∃ B, srO n al be pr v i (smL n k i (2 ^ n)) A B ∧ ((r = nI 0 ∧ fewz = few ∧ srI n be kf lf rz fz pz zz B ∧ sz ≤ zz ∧ (∀ j, j < sz * 8 → rz j = rf j)) ∨ (r = nI 1 ∧ ¬ B.2.2.2 = -1 ∧ fewz = B.2.2.2))
section OPI
variable {n k al be sz v i o gz : Nat} {pr few z1 z2 z3 m9 gf : Int32} {kf lf rf c1 c2 c3 sf pf sg : Nat → Int32} {A : srS}
theorem opI.zero (h : srI n be kf lf rf sf pf sz A) : opI n k al be pr kf lf rf sz A v i few z3 0 (nI 0) rf sf pf sz few := ⟨A, (by rw [List.take_zero]; exact (rfl : A = A)), rfl, h, Nat.le_refl _, fun _ _ => rfl, fun _ W hW q => absurd q (hasB_0 (by omega))⟩
theorem opI.done (h : opI n k al be pr kf lf rf sz A v i few z3 o m9 c1 c2 c3 gz gf) (ho : (smL n k i (2 ^ n)).length ≤ o) : opR n k al be pr kf lf rf sz A v i few (nI 0) gf c1 c2 c3 gz := by
  obtain ⟨B, h1, h2, h3, h4, h5, _⟩ := h
  rw [List.take_of_length_le ho] at h1
  exact ⟨B, h1, Or.inl ⟨rfl, h2, h3, h4, h5⟩⟩
/-- the state that the o-th sample leads to, of both sides -/
theorem op_rel (hn : n ≤ 8) (hi : i < n) (hk : k < n) (hal : al ≤ 8) (hbe : 1 ≤ be ∧ be ≤ 15) (h2 : k < 2 * al) (ho : o < (smL n k i (2 ^ n)).length) (hsm : smT n k i (2 ^ n) sg) {F nf nz : Nat → Int32} (hr : relR be nf kf lf F) (hlis : lisI n i lf kf nf 0 z1 z2 z3) (hask : askP i nf kf)
    (hcl : ∀ j, j < 32 → nz j = upd (givF n (z3 &&& sg o) (colF (nf i)) nf) i (setF pr be (nf i) (winF al (bcF (sg o &&& z2)) (bcF (sg o &&& z1)))) j) : relR be nz kf lf (askM n al be pr F i (nI ((smL n k i (2 ^ n)).getD o 0))) ∧ mcaP F i := by
  have mb := smL_mem ho
  have hm : mcaP F i := (ask_iff (hr i (by omega))).mp hask
  have hS : msmP n k i (sg o) := by rw [hsm o ho]; exact (smB_iff hn hi hk mb.1).mp mb.2
  rw [← hsm o ho]
  exact ⟨ask_rel hr hi hn hal hbe h2 hm hS (by omega) hlis hcl, hm⟩
/-- nobody takes the colour, and the same won before -/
theorem opI.skip (h : opI n k al be pr kf lf rf sz A v i few z3 o m9 c1 c2 c3 gz gf) (hn : n ≤ 8) (hi : i < n) (hk : k < n) (hal : al ≤ 8) (hbe : 1 ≤ be ∧ be ≤ 15) (h2 : k < 2 * al) (ho : o < (smL n k i (2 ^ n)).length) (hsm : smT n k i (2 ^ n) sg) (hv : v < sz) (hlis : lisI n i lf kf (fun j => rf (v * 8 + j)) 0 z1 z2 z3) (hask : askP i (fun j => rf (v * 8 + j)) kf)
    (hz : z3 = 0) {W : Nat} (hW : W < 3) (hw : winF al (bcF (sg o &&& z2)) (bcF (sg o &&& z1)) = cI W) (hb : hasB m9 W) : opI n k al be pr kf lf rf sz A v i few z3 (o + 1) m9 c1 c2 c3 gz gf := by
  obtain ⟨B, h1, h3, h4, h5, h6, h7⟩ := h
  obtain ⟨m, hm, e⟩ := h7 hz W hW hb
  have hrow : relR be (fun j => rf (v * 8 + j)) kf lf (B.2.1 v) := (h4.2.2.1 v (by omega)).congr (fun j hj => (h6 _ (by omega)).symm)
  have hr := (op_rel hn hi hk hal hbe h2 ho hsm hrow hlis hask (nz := upd (givF n (z3 &&& sg o) (colF (rf (v * 8 + i))) (fun j => rf (v * 8 + j))) i (setF pr be (rf (v * 8 + i)) (winF al (bcF (sg o &&& z2)) (bcF (sg o &&& z1))))) (fun _ _ => rfl)).1
  have hs := hr.congr (nf' := upd (fun j => rf (v * 8 + j)) i (setF pr be (rf (v * 8 + i)) (cI W))) (fun j hj => by rw [← hw]; exact (set_z hz (fun _ _ => rfl) j hj).symm)
  have st2 : srStep n B v (askM n al be pr (B.2.1 v) i (nI ((smL n k i (2 ^ n)).getD o 0))) B := Or.inr ⟨h4.2.2.2.2.2.1, Or.inr ⟨fun q => (h4.2.2.2.2.1 m hm).1 (spl_same hn ((h4.same hs hm).mp e).symm (fun j hj => (h4.kin hs hm j hj).symm) q), Or.inl ⟨fun q => q m (by rw [h4.2.1]; exact hm) ((h4.same hs hm).mp e), rfl⟩⟩⟩
  refine ⟨B, ?_, h3, h4, h5, h6, h7⟩
  rw [smL_take ho]
  exact h1.snoc st2
/-- a sample was tried: nothing ends -/
theorem opI.next {wf rz fz pz : Nat → Int32} {zz : Nat} {r fewz : Int32} (h : opI n k al be pr kf lf rf sz A v i few z3 o m9 c1 c2 c3 gz gf) (ho : o < (smL n k i (2 ^ n)).length) {B : srS} (hB : srO n al be pr v i ((smL n k i (2 ^ n)).take o) A B)
    {W : Nat} (hW : W < 3) (hset : z3 = 0 → ∀ j, j < 8 → wf j = upd (fun j => rf (v * 8 + j)) i (setF pr be (rf (v * 8 + i)) (cI W)) j)
    (hc : cmR n be kf lf c1 c2 c3 wf gz B v (askM n al be pr (B.2.1 v) i (nI ((smL n k i (2 ^ n)).getD o 0))) gf r fewz rz fz pz zz) : (r = nI 0 ∧ opI n k al be pr kf lf rf sz A v i few z3 (o + 1) (m9 ||| bitI W) rz fz pz zz fewz) ∨ (r = nI 1 ∧ opR n k al be pr kf lf rf sz A v i few r fewz rz fz pz zz) := by
  obtain ⟨B0, h1, h3, h4, h5, h6, h7⟩ := h
  have e0 := h1.uniq hB
  subst e0
  obtain ⟨C, st, hc⟩ := hc
  have w := h1.snoc st
  rw [← smL_take ho] at w
  rcases hc with ⟨q1, q2, q3, q4, q5, m, q6, q7⟩ | ⟨q1, q2, q3⟩
  · refine Or.inl ⟨q1, C, w, q2.trans h3, q3, by omega, fun j hj => (q5 j (by omega)).trans (h6 j hj), fun hz V hV hb => ?_⟩
    rcases (hasB_orbit (by omega) (by omega)).mp hb with b | b
    · obtain ⟨m', hm', e'⟩ := h7 hz V hV b
      exact ⟨m', by omega, fun j hj => (q5 _ (by omega)).trans (e' j hj)⟩
    · subst b
      exact ⟨m, q6, fun j hj => (q7 j hj).trans (hset hz j hj)⟩
  · refine Or.inr ⟨q1, C, ?_, Or.inr ⟨q1, q2, q3⟩⟩
    have d : srO n al be pr v i ((smL n k i (2 ^ n)).drop (o + 1)) C C := srO.dead q2
    have z := w.app d
    rw [List.take_append_drop] at z
    exact z
end OPI
