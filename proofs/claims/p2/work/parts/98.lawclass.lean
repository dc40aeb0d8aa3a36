def CORE (cs : Nat → ClassId) (h0 : Nat) (n k al be en : Nat) (ea pr : Int32) (hr hg hgr ha hpo hly hse hc pa spr qm sm ca nd kd lk vw gs g1r g2r gan gpr gde gme wk spa aga ona wk2 : Nat) (v sv rw rl : Nat → Nat) (se ke nk : Nat) (pm dr ver z1 z2 z3 : Int32) (nf kf lf chf pof gsf g1f g2f gaf gpf gdf gmf wf1 wf2 cf spf qf : Nat → Int32) (sef sg : Nat → Nat → Int32) (sp ag : Nat → Int64) (og : Nat → Nat → Int64) : va_W := [(h0, .inr (11, [.ref hr, .ref hg, .ref hgr, .ref ha, .ref hpo, .ref hly, .ref hse, .ref hc, .ref pa, .ref spr, .ref qm, .int pm, .int (nI ke), .int (nI nk), .int dr, .int ver])), (hr, .inr (7, [.int (nI n), .int (nI k), .int (nI al), .int (nI be), .int ea, .int pr, .ref sm, .int (nI se), .ref ca])), (ha, .inr (0, [.ref hr, .ref hg, .int z1, .int z2, .int z3])), (hg, .inr (4, [.ref nd, .ref kd, .ref lk, .ref vw])), (nd, .inl (cs 0, 8, .inl nf)), (kd, .inl (cs 0, 8, .inl kf)), (lk, .inl (cs 0, 8, .inl lf)), (vw, .inl (cs 2, 8, .inr (.inr (.inr (.inr (fun i => some (v i))))))), (v 0, .inr (10, [.int (chf 0), .int (pof 0), .ref (sv 0)])), (sv 0, .inl (cs 0, 32, .inl (sef 0))), (v 1, .inr (10, [.int (chf 1), .int (pof 1), .ref (sv 1)])), (sv 1, .inl (cs 0, 32, .inl (sef 1))), (v 2, .inr (10, [.int (chf 2), .int (pof 2), .ref (sv 2)])), (sv 2, .inl (cs 0, 32, .inl (sef 2))), (v 3, .inr (10, [.int (chf 3), .int (pof 3), .ref (sv 3)])), (sv 3, .inl (cs 0, 32, .inl (sef 3))), (v 4, .inr (10, [.int (chf 4), .int (pof 4), .ref (sv 4)])), (sv 4, .inl (cs 0, 32, .inl (sef 4))), (v 5, .inr (10, [.int (chf 5), .int (pof 5), .ref (sv 5)])), (sv 5, .inl (cs 0, 32, .inl (sef 5))), (v 6, .inr (10, [.int (chf 6), .int (pof 6), .ref (sv 6)])), (sv 6, .inl (cs 0, 32, .inl (sef 6))), (v 7, .inr (10, [.int (chf 7), .int (pof 7), .ref (sv 7)])), (sv 7, .inl (cs 0, 32, .inl (sef 7))), (hgr, .inr (3, [.int (nI en), .ref gs, .ref g1r, .ref g2r, .ref gan, .ref gpr, .ref gde, .ref gme])), (gs, .inl (cs 0, 16, .inl gsf)), (g1r, .inl (cs 0, 16, .inl g1f)), (g2r, .inl (cs 0, 16, .inl g2f)), (gan, .inl (cs 0, 16, .inl gaf)), (gpr, .inl (cs 0, 16, .inl gpf)), (gde, .inl (cs 0, 16, .inl gdf)), (gme, .inl (cs 0, 8, .inl gmf)), (hpo, .inr (6, [.ref hr, .ref hg, .ref hgr])), (wk, .inl (cs 0, 8, .inl wf1)), (spa, .inl (cs 1, 13, .inr (.inl sp))), (aga, .inl (cs 1, 13, .inr (.inl ag))), (ona, .inl (cs 6, 13, .inr (.inr (.inr (.inr (fun i => if i < 13 then some (rl i) else none)))))), (rl 0, .inl (cs 1, 9, .inr (.inl (og 0)))), (rl 1, .inl (cs 1, 9, .inr (.inl (og 1)))), (rl 2, .inl (cs 1, 9, .inr (.inl (og 2)))), (rl 3, .inl (cs 1, 9, .inr (.inl (og 3)))), (rl 4, .inl (cs 1, 9, .inr (.inl (og 4)))), (rl 5, .inl (cs 1, 9, .inr (.inl (og 5)))), (rl 6, .inl (cs 1, 9, .inr (.inl (og 6)))), (rl 7, .inl (cs 1, 9, .inr (.inl (og 7)))), (rl 8, .inl (cs 1, 9, .inr (.inl (og 8)))), (rl 9, .inl (cs 1, 9, .inr (.inl (og 9)))), (rl 10, .inl (cs 1, 9, .inr (.inl (og 10)))), (rl 11, .inl (cs 1, 9, .inr (.inl (og 11)))), (rl 12, .inl (cs 1, 9, .inr (.inl (og 12)))), (wk2, .inl (cs 0, 8, .inl wf2)), (ca, .inl (cs 0, 8, .inl cf)), (sm, .inl (cs 5, 8, .inr (.inr (.inr (.inr (fun i => if i < 8 then some (rw i) else none)))))), (rw 0, .inl (cs 0, 35, .inl (sg 0))), (rw 1, .inl (cs 0, 35, .inl (sg 1))), (rw 2, .inl (cs 0, 35, .inl (sg 2))), (rw 3, .inl (cs 0, 35, .inl (sg 3))), (rw 4, .inl (cs 0, 35, .inl (sg 4))), (rw 5, .inl (cs 0, 35, .inl (sg 5))), (rw 6, .inl (cs 0, 35, .inl (sg 6))), (rw 7, .inl (cs 0, 35, .inl (sg 7))), (spr, .inl (cs 0, 8, .inl spf)), (qm, .inl (cs 0, 8, .inl qf))]
def PaP (cs : Nat → ClassId) (pa : Nat) (paf : Nat → Option Nat) (pgF pnF pkF plF pwF : Nat → Nat) (pvF psF : Nat → Nat → Nat) (w : va_W) : Prop := ∃ (c1 c2 c3 c4 c5 : Nat → Nat → Int32) (c6 : Nat → Nat → Nat → Int32), w = PAL cs pa paf pgF pnF pkF plF pwF pvF psF c1 c2 c3 c4 c5 c6 ∧ (∀ i, i < 8 → ∀ j, j < 8 → prP (c6 i j)) ∧ ∀ i, i < 8 → paf i = some (pgF i)
theorem prU {c6 : Nat → Nat → Nat → Int32} {d : Nat → Nat → Int32} {I : Nat} (h : ∀ i, i < 8 → ∀ j, j < 8 → prP (c6 i j)) (hd : ∀ j, j < 8 → prP (d j)) : ∀ i, i < 8 → ∀ j, j < 8 → prP ((fun q => if q = I then d else c6 q) i j) := fun i hi j hj => by
  show prP ((if i = I then d else c6 i) j)
  by_cases q : i = I
  · rw [if_pos q]; exact hd j hj
  · rw [if_neg q]; exact h i hi j hj

def LyN (cs : Nat → ClassId) (hly hr ha wk spa aga ona : Nat) (w : va_W) : Prop := ∃ (dn0 fu vly : Int32), w = [(hly, .inr (5, [.ref hr, .ref ha, .ref wk, .null, .null, .null, .null, .int dn0, .int fu, .int vly, .ref spa, .ref aga, .ref ona]))]
def LyA (cs : Nat → ClassId) (hly hr ha wk spa aga ona : Nat) (w : va_W) : Prop := ∃ (hs1 : Nat) (hs2 : Nat) (w1 : Nat) (w2 : Nat) (dn : Nat) (fu : Int32) (ra1 : Nat) (sa1 : Nat) (sz1 : Nat) (rf1 : Nat → Int32) (sf1 : Nat → Int32) (ra2 : Nat) (sa2 : Nat) (sz2 : Nat) (rf2 : Nat → Int32) (sf2 : Nat → Int32) (u1 : Nat → Int64) (u2 : Nat → Int64) (vly : Int32), w = [(hly, .inr (5, [.ref hr, .ref ha, .ref wk, .ref hs1, .ref hs2, .ref w1, .ref w2, .int (nI dn), .int fu, .int vly, .ref spa, .ref aga, .ref ona])), (hs1, .inr (9, [.ref ra1, .ref sa1, .int (nI sz1)])), (ra1, .inl (cs 0, 16008, .inl rf1)), (sa1, .inl (cs 0, 4096, .inl sf1)), (hs2, .inr (9, [.ref ra2, .ref sa2, .int (nI sz2)])), (ra2, .inl (cs 0, 16008, .inl rf2)), (sa2, .inl (cs 0, 4096, .inl sf2)), (w1, .inl (cs 1, 2000, .inr (.inl u1))), (w2, .inl (cs 1, 2000, .inr (.inl u2)))] ∧ dn ≤ 12 ∧ sz1 ≤ 2000 ∧ sz2 ≤ 2000

def SeN (cs : Nat → ClassId) (hse hr ha wk2 : Nat) (w : va_W) : Prop := ∃ (few0 spl0 vse : Int32), w = [(hse, .inr (8, [.ref hr, .ref ha, .ref wk2, .null, .null, .null, .null, .int few0, .int spl0, .int vse]))]
def SeA (cs : Nat → ClassId) (hse hr ha wk2 : Nat) (w : va_W) : Prop := ∃ (hs3 ra3 sa3 spa9 bn bs spl sz3 : Nat) (few vse : Int32) (rf3 sf3 pf bf cf3 : Nat → Int32), w = [(hse, .inr (8, [.ref hr, .ref ha, .ref wk2, .ref hs3, .ref spa9, .ref bn, .ref bs, .int few, .int (nI spl), .int vse])), (hs3, .inr (9, [.ref ra3, .ref sa3, .int (nI sz3)])), (ra3, .inl (cs 0, 16008, .inl rf3)), (sa3, .inl (cs 0, 4096, .inl sf3)), (spa9, .inl (cs 0, 2001, .inl pf)), (bn, .inl (cs 0, 2001, .inl bf)), (bs, .inl (cs 0, 2001, .inl cf3))] ∧ slP sz3 sf3 ∧ sz3 ≤ 2001 ∧ inP 2001 2001 pf ∧ spl < 2001 ∧ fewP few

def frL (m : Nat) (o : Nat → Nat) (a b : Nat → Int64) : va_W := (List.range (m + 1)).map (fun j => (o j, .inr (2, [.long (a j), .long (b j)])))
def Ch0 (cs : Nat → ClassId) (hc hr ab rb ob tb : Nat) (w : va_W) : Prop := ∃ (fa ga ow tw : Nat → Option Nat), w = [(hc, .inr (1, [.ref hr, .ref ab, .ref rb, .ref ob, .ref tb, .int (nI 0)])), (ab, .inl (cs 4, 9, .inr (.inr (.inr (.inr fa))))), (rb, .inl (cs 4, 9, .inr (.inr (.inr (.inr ga))))), (ob, .inl (cs 4, 9, .inr (.inr (.inr (.inr ow))))), (tb, .inl (cs 4, 9, .inr (.inr (.inr (.inr tw)))))]
def Ch1 (cs : Nat → ClassId) (hc hr ab rb ob tb : Nat) (n : Nat) (w : va_W) : Prop := ∃ (fa ga ow tw : Nat → Option Nat) (o t : Nat → Nat) (a b p e : Nat → Int64), w = [(hc, .inr (1, [.ref hr, .ref ab, .ref rb, .ref ob, .ref tb, .int (nI 1)])), (ab, .inl (cs 4, 9, .inr (.inr (.inr (.inr fa))))), (rb, .inl (cs 4, 9, .inr (.inr (.inr (.inr ga))))), (ob, .inl (cs 4, 9, .inr (.inr (.inr (.inr ow))))), (tb, .inl (cs 4, 9, .inr (.inr (.inr (.inr tw)))))] ++ (frL n o a b ++ frL n t p e) ∧ (∀ j, j ≤ n → ow j = some (o j)) ∧ ∀ j, j ≤ n → tw j = some (t j)

/-- the group's numbers -/
def GP (n k al be en : Nat) : Prop := (2 ≤ n ∧ n ≤ 8) ∧ (1 ≤ k ∧ k < n) ∧ (1 ≤ al ∧ al ≤ k) ∧ (1 ≤ be ∧ be ≤ 15) ∧ en ≤ 16
/-- what one call may take -/
def xRm (rm : Room) (a b : Nat) : Prop := rm.frames ≤ 40 ∧ rm.locals ≤ 1000 ∧ rm.cells ≤ 200 ∧ rm.slots ≤ 213000 ∧ rm.slots + a ≤ 500 + b
/-- the class's world -/
def CW (cs : Nat → ClassId) (h0 : Nat) (n k al be en : Nat) (ea pr : Int32) (pot : Nat) (w : va_W) : Prop := ∃ (hr hg hgr ha hpo hly hse hc pa spr qm sm ca nd kd lk vw gs g1r g2r gan gpr gde gme wk spa aga ona wk2 : Nat) (v sv rw rl : Nat → Nat) (ab rb ob tb : Nat) (paf : Nat → Option Nat) (pgF pnF pkF plF pwF : Nat → Nat) (pvF psF : Nat → Nat → Nat) (se ke nk : Nat) (pm dr ver z1 z2 z3 : Int32) (nf kf lf chf pof gsf g1f g2f gaf gpf gdf gmf wf1 wf2 cf spf qf : Nat → Int32) (sef sg : Nat → Nat → Int32) (sp ag : Nat → Int64) (og : Nat → Nat → Int64) (bl bs : Nat) (wp wy wz wh wg : va_W), w = CORE cs h0 n k al be en ea pr hr hg hgr ha hpo hly hse hc pa spr qm sm ca nd kd lk vw gs g1r g2r gan gpr gde gme wk spa aga ona wk2 v sv rw rl se ke nk pm dr ver z1 z2 z3 nf kf lf chf pof gsf g1f g2f gaf gpf gdf gmf wf1 wf2 cf spf qf sef sg sp ag og ++ (wp ++ (wy ++ (wz ++ (wh ++ wg)))) ∧ (pot = 45000 * bl + 27000 * bs) ∧ (ke ≤ 8 ∧ nk < 8 ∧ (1 ≤ se ∧ se ≤ 35) ∧ inP 16 8 gsf ∧ ∀ j, j < 8 → prP (sef j)) ∧ PaP cs pa paf pgF pnF pkF plF pwF pvF psF wp ∧ ((bl = 0 ∧ LyN cs hly hr ha wk spa aga ona wy) ∨ (bl = 1 ∧ LyA cs hly hr ha wk spa aga ona wy)) ∧ ((bs = 0 ∧ SeN cs hse hr ha wk2 wz) ∨ (bs = 1 ∧ SeA cs hse hr ha wk2 wz)) ∧ (Ch0 cs hc hr ab rb ob tb wh ∨ Ch1 cs hc hr ab rb ob tb n wh)

section PERMS
variable {α : Type} {af RL CO Y WR PX P P1 P2 P3 Q X : List α}
theorem permA (h1 : (af ++ RL).Perm CO) : (af ++ (RL ++ X)).Perm (CO ++ X) := by
  rw [← List.append_assoc]
  exact h1.append_right X
theorem permPa (h2 : (Y ++ WR).Perm PX) (h1 : (af ++ RL).Perm (CO ++ Y)) : (af ++ (RL ++ (WR ++ Q))).Perm (CO ++ (PX ++ Q)) := by
  have e1 : af ++ (RL ++ (WR ++ Q)) = (af ++ RL) ++ (WR ++ Q) := by simp only [List.append_assoc]
  have e2 : (CO ++ Y) ++ (WR ++ Q) = CO ++ ((Y ++ WR) ++ Q) := by simp only [List.append_assoc]
  rw [e1]
  refine (h1.append_right (WR ++ Q)).trans ?_
  rw [e2]
  exact (h2.append_right Q).append_left CO
theorem permS1 (Y : List α) (h1 : (af ++ RL).Perm (CO ++ Y)) : (af ++ (RL ++ (P1 ++ Q))).Perm (CO ++ (P1 ++ (Y ++ Q))) := by
  have e1 : af ++ (RL ++ (P1 ++ Q)) = (af ++ RL) ++ (P1 ++ Q) := by simp only [List.append_assoc]
  have e2 : (CO ++ Y) ++ (P1 ++ Q) = CO ++ ((Y ++ P1) ++ Q) := by simp only [List.append_assoc]
  have e3 : CO ++ (P1 ++ (Y ++ Q)) = CO ++ ((P1 ++ Y) ++ Q) := by simp only [List.append_assoc]
  rw [e1, e3]
  refine (h1.append_right (P1 ++ Q)).trans ?_
  rw [e2]
  exact ((List.perm_append_comm).append_right Q).append_left CO
theorem permS2 (Y : List α) (h1 : (af ++ RL).Perm (CO ++ Y)) : (af ++ (RL ++ (P1 ++ (P2 ++ Q)))).Perm (CO ++ (P1 ++ (P2 ++ (Y ++ Q)))) := by
  have h := permS1 (P1 := P1 ++ P2) (Q := Q) Y h1
  simp only [List.append_assoc] at h ⊢
  exact h
theorem permS3 (Y : List α) (h1 : (af ++ RL).Perm (CO ++ Y)) : (af ++ (RL ++ (P1 ++ (P2 ++ (P3 ++ Q))))).Perm (CO ++ (P1 ++ (P2 ++ (P3 ++ (Y ++ Q))))) := by
  have h := permS1 (P1 := P1 ++ (P2 ++ P3)) (Q := Q) Y h1
  simp only [List.append_assoc] at h ⊢
  exact h
end PERMS
