/-! a deed of the law, as a function of the state, the slot's state and two ints -/
def fdV (s : StV) (nm : Nat) : Int := if foF (nmP s.2.1 nm) s.2.2.2.2.1 = -1 then -2 else ((s.1 (foF (nmP s.2.1 nm) s.2.2.2.2.1).toNat % 1000 : Nat) : Int)
theorem fdV_no {s : StV} {nm : Nat} (h : foF (nmP s.2.1 nm) s.2.2.2.2.1 = -1) : fdV s nm = -2 := if_pos h
theorem fdV_yes {s : StV} {nm : Nat} (h : foF (nmP s.2.1 nm) s.2.2.2.2.1 ≠ -1) : fdV s nm = ((s.1 (foF (nmP s.2.1 nm) s.2.2.2.2.1).toNat % 1000 : Nat) : Int) := if_neg h
theorem fdV_rg (s : StV) (nm : Nat) : -2 ≤ fdV s nm ∧ fdV s nm < 1000 := by
  unfold fdV
  split <;> omega
theorem fdV_lt {s : StV} {nm : Nat} : fdV s nm < 0 → foF (nmP s.2.1 nm) s.2.2.2.2.1 = -1 := by
  unfold fdV
  split
  · intro _; assumption
  · intro h; omega
theorem fdV_ge {s : StV} {nm : Nat} : 0 ≤ fdV s nm → foF (nmP s.2.1 nm) s.2.2.2.2.1 ≠ -1 := by
  unfold fdV
  split
  · intro h; omega
  · intro _; assumption
theorem fo_place {s : StV} {nm : Nat} (h : foF (nmP s.2.1 nm) s.2.2.2.2.1 ≠ -1) : (foF (nmP s.2.1 nm) s.2.2.2.2.1).toNat < s.2.2.2.2.1 := by
  have := foF_ge _ _ h
  omega
def opV (r : Nat) (s : StV) : StV × Int := (pzS s (zU s.2.2.2.1 r (-1)), ((orF (zU s.2.2.2.1 r (-1)) 4 : Nat) : Int))
def rvV (i : Nat) (s : StV) : StV × Int := (rmS i s, ((s.2.2.2.2.1 - 1 : Nat) : Int))
def rnV (nm i : Nat) (s : StV) : StV × Int := (mkS nm (rmS i s), ((s.2.2.2.2.2.2.2 : Nat) : Int))
def skV (r : Nat) (ps : Int) (s : StV) : StV × Int := (pzS s (zU s.2.2.2.1 r ps), 1 + s.2.2.2.1 r)
def paV (r : Nat) (s : StV) : Nat := paF s.1 s.2.2.2.2.1 (s.2.2.2.1 r)
def elV (r : Nat) (s : StV) : Nat := if paV r s < s.2.2.2.2.1 then elF s.1 s.2.2.1 s.2.2.2.2.1 (paV r s) else paV r s
def rlV (r : Nat) (s : StV) : StV × Int := if paV r s < elV r s then (pzS s (zU s.2.2.2.1 r ((s.1 (elV r s - 1) : Nat) : Int)), ((elV r s - paV r s : Nat) : Int)) else (s, 0)
def nxV (r : Nat) (s : StV) : StV × Int := if paV r s < s.2.2.2.2.1 then (pzS s (zU s.2.2.2.1 r ((s.1 (paV r s) : Nat) : Int)), ((2 + s.1 (paV r s) % 1000 : Nat) : Int)) else (s, 0)
def clV (r : Nat) (s : StV) : StV × Int := (pzS s (zU s.2.2.2.1 r (-2)), 1 + s.2.2.2.1 r)
def adV (nm : Nat) (s : StV) : StV × Int := (mkS nm s, ((s.2.2.2.2.2.2.2 : Nat) : Int))
/-- by the number of the deed: w; the reader r, the name nm, the low bits of y, places -/
def actN (q s : StV) (w r nm b3 b7 i9 : Nat) (ps : Int) : StV × Int :=
  if w = 0 ∨ w = 1 then (if s.2.2.2.2.1 = 0 then opV r s else rvV i9 s)
  else if w = 2 then (if s.2.2.2.2.1 = 0 ∨ foF (nmP s.2.1 nm) s.2.2.2.2.1 ≠ -1 then opV r s else rnV nm i9 s)
  else if w = 3 then opV r s
  else if w = 4 then (if s.2.2.2.1 r = -2 then opV r s else skV r ps s)
  else if w = 5 then (if s.2.2.2.1 r = -2 then opV r s else rlV r s)
  else if w = 6 ∨ w = 7 ∨ w = 8 then (if s.2.2.2.1 r = -2 then opV r s else nxV r s)
  else if w = 9 then (if s.2.2.2.1 r = -2 then opV r s else if b3 = 0 then clV r s else nxV r s)
  else if w = 10 then (if b7 = 0 then (q, ((q.2.2.2.2.1 : Nat) : Int)) else opV r s)
  else if foF (nmP s.2.1 nm) s.2.2.2.2.1 ≠ -1 then rvV (foF (nmP s.2.1 nm) s.2.2.2.2.1).toNat s
  else if s.2.2.2.2.1 = 40 then rvV 0 s else adV nm s
def actF (q s : StV) (x y : Int32) : StV × Int := actN q s (upF x 16) (upF y 4) (n2F (upF (srF y 2) 100)) (anF y 3) (anF y 7) (upF (srF y 9) s.2.2.2.2.1) (((upF (srF y 4) 64001 : Nat) : Int) - 1)
section
variable {q s : StV} {w r nm b3 b7 i9 : Nat} {ps : Int}
theorem actN_0 (h : w = 0 ∨ w = 1) : actN q s w r nm b3 b7 i9 ps = if s.2.2.2.2.1 = 0 then opV r s else rvV i9 s := if_pos h
theorem actN_2 (h : w = 2) : actN q s w r nm b3 b7 i9 ps = if s.2.2.2.2.1 = 0 ∨ foF (nmP s.2.1 nm) s.2.2.2.2.1 ≠ -1 then opV r s else rnV nm i9 s := by
  unfold actN; rw [if_neg (by omega), if_pos (by omega)]
theorem actN_3 (h : w = 3) : actN q s w r nm b3 b7 i9 ps = opV r s := by
  unfold actN; rw [if_neg (by omega), if_neg (by omega), if_pos (by omega)]
theorem actN_4 (h : w = 4) : actN q s w r nm b3 b7 i9 ps = if s.2.2.2.1 r = -2 then opV r s else skV r ps s := by
  unfold actN; rw [if_neg (by omega), if_neg (by omega), if_neg (by omega), if_pos (by omega)]
theorem actN_5 (h : w = 5) : actN q s w r nm b3 b7 i9 ps = if s.2.2.2.1 r = -2 then opV r s else rlV r s := by
  unfold actN; rw [if_neg (by omega), if_neg (by omega), if_neg (by omega), if_neg (by omega), if_pos (by omega)]
theorem actN_6 (h : w = 6 ∨ w = 7 ∨ w = 8) : actN q s w r nm b3 b7 i9 ps = if s.2.2.2.1 r = -2 then opV r s else nxV r s := by
  unfold actN; rw [if_neg (by omega), if_neg (by omega), if_neg (by omega), if_neg (by omega), if_neg (by omega), if_pos (by omega)]
theorem actN_9 (h : w = 9) : actN q s w r nm b3 b7 i9 ps = if s.2.2.2.1 r = -2 then opV r s else if b3 = 0 then clV r s else nxV r s := by
  unfold actN; rw [if_neg (by omega), if_neg (by omega), if_neg (by omega), if_neg (by omega), if_neg (by omega), if_neg (by omega), if_pos (by omega)]
theorem actN_10 (h : w = 10) : actN q s w r nm b3 b7 i9 ps = if b7 = 0 then (q, ((q.2.2.2.2.1 : Nat) : Int)) else opV r s := by
  unfold actN; rw [if_neg (by omega), if_neg (by omega), if_neg (by omega), if_neg (by omega), if_neg (by omega), if_neg (by omega), if_neg (by omega), if_pos (by omega)]
theorem actN_d (h : 10 < w) : actN q s w r nm b3 b7 i9 ps = if foF (nmP s.2.1 nm) s.2.2.2.2.1 ≠ -1 then rvV (foF (nmP s.2.1 nm) s.2.2.2.2.1).toNat s else if s.2.2.2.2.1 = 40 then rvV 0 s else adV nm s := by
  unfold actN; rw [if_neg (by omega), if_neg (by omega), if_neg (by omega), if_neg (by omega), if_neg (by omega), if_neg (by omega), if_neg (by omega), if_neg (by omega)]
end
theorem elV_le (r : Nat) (s : StV) : elV r s ≤ s.2.2.2.2.1 := elI_le _ _ _ _
theorem paV_le (r : Nat) (s : StV) : paV r s ≤ s.2.2.2.2.1 := paF_le _ _ _
