/-! draws -/
def nxD (x : Int32) : Int32 := x * nI 1103515245 + nI 12345
def shD (x : Int32) : Int32 := (x.toUInt32 >>> ((nI 8).toUInt32 &&& Int32.toUInt32 31)).toInt32
def drV (x m : Int32) : Int32 := shD x - shD x / m * m
/-- the bit with so many set ones below it; d: how many bits are left -/
def nthB (x : Int32) : Nat → Int32 → Nat
  | 0, _ => 0
  | d + 1, i => if hasB x (30 - d) then (if i = 0 then 30 - d else nthB x d (i + (-1))) else nthB x d i
theorem nthB_no {x i : Int32} {o : Nat} (ho : o < 31) (h : ¬ hasB x o) : nthB x (31 - o) i = nthB x (31 - (o + 1)) i := by
  obtain ⟨d, hd⟩ : ∃ d, 31 - o = d + 1 := ⟨30 - o, by omega⟩
  rw [hd, show 31 - (o + 1) = d by omega]
  show (if hasB x (30 - d) then _ else nthB x d i) = _
  rw [show 30 - d = o by omega, if_neg h]
theorem nthB_yes {x i : Int32} {o : Nat} (ho : o < 31) (h : hasB x o) (hi : ¬ i = 0) : nthB x (31 - o) i = nthB x (31 - (o + 1)) (i + (-1)) := by
  obtain ⟨d, hd⟩ : ∃ d, 31 - o = d + 1 := ⟨30 - o, by omega⟩
  rw [hd, show 31 - (o + 1) = d by omega]
  show (if hasB x (30 - d) then (if i = 0 then 30 - d else nthB x d (i + (-1))) else nthB x d i) = _
  rw [show 30 - d = o by omega, if_pos h, if_neg hi]
theorem nthB_at {x i : Int32} {o : Nat} (ho : o < 31) (h : hasB x o) (hi : i = 0) : nthB x (31 - o) i = o := by
  obtain ⟨d, hd⟩ : ∃ d, 31 - o = d + 1 := ⟨30 - o, by omega⟩
  rw [hd]
  show (if hasB x (30 - d) then (if i = 0 then 30 - d else nthB x d (i + (-1))) else nthB x d i) = _
  rw [show 30 - d = o by omega, if_pos h, if_pos hi]
/-- one of a sample: what is drawn, who is left, who is in it -/
def dsS (m : Nat) (t : Int32 × Int32 × Int32) : Int32 × Int32 × Int32 := (nxD t.1, t.2.1 &&& ((bitI (nthB t.2.1 31 (drV (nxD t.1) (nI m)))) ^^^ -1), t.2.2 ||| bitI (nthB t.2.1 31 (drV (nxD t.1) (nI m))))
def dsL (n : Nat) (t : Int32 × Int32 × Int32) : Nat → Int32 × Int32 × Int32
  | 0 => t
  | o + 1 => dsS (n - 1 - o) (dsL n t o)
def dsI (n : Nat) (t : Int32 × Int32 × Int32) (o : Nat) (d l s : Int32) : Prop := dsL n t o = (d, l, s)
theorem dsI_s {n o : Nat} {t : Int32 × Int32 × Int32} {d l s d2 l2 s2 : Int32} {b : Nat} (h : dsI n t o d l s) (hd : d2 = nxD d) (hb : b = nthB l 31 (drV (nxD d) (nI (n - 1 - o)))) (hl : l2 = l &&& ((bitI b) ^^^ -1)) (hs : s2 = s ||| bitI b) : dsI n t (o + 1) d2 l2 s2 := by
  show dsS (n - 1 - o) (dsL n t o) = _
  rw [show dsL n t o = (d, l, s) from h, hl, hs, hd, hb]
  rfl
def lefI (n a : Nat) : Int32 := (((nI 1) <<< ((nI n) &&& 31)) - (nI 1)) &&& ((bitI a) ^^^ -1)
theorem lefI_c {n a : Nat} (hn : n ≤ 8) : (nI (2 ^ n - 1)) &&& ((bitI a) ^^^ -1) = lefI n a := by
  have e : ∀ n, n ≤ 8 → nI (2 ^ n - 1) = ((nI 1) <<< ((nI n) &&& 31)) - (nI 1) := by decide
  unfold lefI
  rw [e n hn]
theorem sub_sub {n o : Nat} (h : o + 1 ≤ n) : nI n - nI 1 - nI o = nI (n - 1 - o) := by rw [pk_sub (by omega), pk_sub (by omega)]
