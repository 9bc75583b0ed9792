/-! the directory's whole world in one word, and what holds of it -/
abbrev HsV : Type := Nat × Nat × (Nat → StV)
/-- addresses; the rows' own addresses -/
abbrev AdV : Type := (Nat → Nat) × (Nat → Option Nat) × (Nat → Option Nat) × (Nat → Nat → Nat) × (Nat → Nat → Nat)
def OW (ct : zCT) (A : AdV) (s : StV) (h : HsV) (fl : Nat → Int) (qv : Nat → StV) (tx : Nat → Nat) (len : Nat) : va_W := ([zO (A.1 0) 5 [.ref (A.1 5), .ref (A.1 12), .ref (A.1 3), .ref (A.1 4), .ref (A.1 1)], zO (A.1 5) 2 [.ref (A.1 6), .ref (A.1 7), .ref (A.1 8), zi (((s.2.2.2.2.2.2.2) : Nat) : Int)], zO (A.1 6) 0 [.ref (A.1 9), .ref (A.1 10), zi (((s.2.2.2.2.1) : Nat) : Int)], zAI ct (A.1 9) 40 (zN (s.1)), zAI ct (A.1 10) 40 (zN (s.2.1)), zO (A.1 7) 4 [.ref (A.1 11), zi (((s.2.2.2.2.2.1) : Nat) : Int), zi (((s.2.2.2.2.2.2.1) : Nat) : Int)], zAI ct (A.1 11) 64 (zN (s.2.2.1)), zAI ct (A.1 8) 4 (s.2.2.2.1), zO (A.1 1) 3 [.ref (A.1 2), zi ((len : Nat) : Int)], zAI ct (A.1 2) 80 (zN tx), zO (A.1 12) 1 [.ref (A.1 13), zi (((h.1) : Nat) : Int), zi (((h.2.1) : Nat) : Int)], zAS ct (A.1 13) 6 (A.2.1), zAS ct (A.1 3) 2 (A.2.2.1), zAZ ct (A.1 4) 2 fl] ++ (stR ct (A.2.2.2.1) (h.2.2) (List.range 6) ++ (stR ct (A.2.2.2.2) qv (List.range 2))))
def pzS (s : StV) (p : Nat → Int) : StV := (s.1, s.2.1, s.2.2.1, p, s.2.2.2.2)
/-- a state saved, the last one taken back, the last one -/
def phH (s : StV) (h : HsV) : HsV := (phO h.1 h.2.1, phC h.2.1, zU h.2.2 (phI h.1 h.2.1) s)
def poH (h : HsV) : HsV := (h.1, h.2.1 - 1, h.2.2)
def toH (h : HsV) : StV := h.2.2 ((h.1 + (h.2.1 - 1)) % 6)
def okH (h : HsV) : Prop := h.1 < 6 ∧ h.2.1 ≤ 6
theorem okH_ph {h : HsV} (s : StV) (k : okH h) : okH (phH s h) := by
  obtain ⟨k1, k2⟩ := k
  unfold okH phH phC phK phO
  dsimp only
  constructor <;> split <;> omega
theorem okH_po {h : HsV} (k : okH h) : okH (poH h) := ⟨k.1, by have := k.2; show h.2.1 - 1 ≤ 6; omega⟩
theorem hc_ph (s : StV) (h : HsV) : (phH s h).2.1 = phK h.2.1 + 1 := rfl
theorem hc_pos (s : StV) (h : HsV) : 0 < (phH s h).2.1 := Nat.succ_pos _
theorem to_ph {h : HsV} (s : StV) : toH (phH s h) = s := by
  show zU h.2.2 (phI h.1 h.2.1) s ((phO h.1 h.2.1 + (phK h.2.1 + 1 - 1)) % 6) = s
  exact zU_s _ _ _
/-- two states saved and both taken back -/
theorem to_ph2 {h : HsV} (s t : StV) (k : okH h) : toH (poH (phH t (phH s h))) = s := by
  obtain ⟨k1, k2⟩ := k
  obtain ⟨o, c, r⟩ := h
  have k1 : o < 6 := k1
  have k2 : c ≤ 6 := k2
  show zU (zU r (phI o c) s) (phI (phO o c) (phK c + 1)) t ((phO (phO o c) (phK c + 1) + (phK (phK c + 1) + 1 - 1 - 1)) % 6) = s
  rw [zU_n]
  · rw [show (phO (phO o c) (phK c + 1) + (phK (phK c + 1) + 1 - 1 - 1)) % 6 = phI o c from ?_]
    · exact zU_s _ _ _
    · unfold phI phO phK
      by_cases c6 : c = 6
      · subst c6; simp only [if_true]; omega
      · rw [if_neg c6, if_neg c6]
        by_cases c5 : c + 1 = 6
        · rw [if_pos c5, if_pos c5]; omega
        · rw [if_neg c5, if_neg c5]; omega
  · unfold phI phO phK
    by_cases c6 : c = 6
    · subst c6; simp only [if_true]; omega
    · rw [if_neg c6, if_neg c6]
      by_cases c5 : c + 1 = 6
      · rw [if_pos c5, if_pos c5]; omega
      · rw [if_neg c5, if_neg c5]; omega
def okA (A : AdV) : Prop := (∀ k, k < 6 → A.2.1 k = some (A.2.2.2.1 k 0)) ∧ ∀ k, k < 2 → A.2.2.1 k = some (A.2.2.2.2 k 0)
def okT (tx : Nat → Nat) (len : Nat) : Prop := len ≤ 80 ∧ ∀ j, j < 80 → tx j < 128
def okW (s : StV) (h : HsV) (fl : Nat → Int) (qv : Nat → StV) (tx : Nat → Nat) (len : Nat) : Prop :=
  Gd s ∧ okH h ∧ (∀ j, j < 2 → fl j = 0 ∨ fl j = 1) ∧ okT tx len
theorem okW.tx {s : StV} {h : HsV} {fl : Nat → Int} {qv : Nat → StV} {tx : Nat → Nat} {len : Nat} (k : okW s h fl qv tx len) {tx2 : Nat → Nat} {len2 : Nat} (h1 : len2 ≤ 80) (h2 : ∀ j, j < 80 → tx2 j < 128) : okW s h fl qv tx2 len2 := ⟨k.1, k.2.1, k.2.2.1, h1, h2⟩
theorem okW.st {s : StV} {h : HsV} {fl : Nat → Int} {qv : Nat → StV} {tx : Nat → Nat} {len : Nat} (k : okW s h fl qv tx len) {s2 : StV} {h2 : HsV} (hs : Gd s2) (hh : okH h2) : okW s2 h2 fl qv tx len := ⟨hs, hh, k.2.2⟩
theorem okW.st0 {s : StV} {h : HsV} {fl : Nat → Int} {qv : Nat → StV} {tx : Nat → Nat} {len : Nat} (k : okW s h fl qv tx len) {s2 : StV} {h2 : HsV} (hs : Gd s2) (hh : okH h2) : okW s2 h2 fl qv tx 0 := ⟨hs, hh, k.2.2.1, Nat.zero_le _, k.2.2.2.2⟩
theorem zU_tx {tx : Nat → Nat} {i v : Nat} (h : ∀ j, j < 80 → tx j < 128) (hv : v < 128) : ∀ j, j < 80 → zU tx i v j < 128 := by
  intro j hj
  unfold zU
  split
  · exact hv
  · exact h j hj
/-- the text with a name of two letters, and that name -/
def tyT (tx : Nat → Nat) (name : Nat) : Nat → Nat := zU (zU tx 0 (97 + name % 5)) 1 (97 + name / 5 % 20)
def n2F (name : Nat) : Nat := nbF (tyT (fun _ => 0) name) 0 2
theorem tyT_0 (tx : Nat → Nat) (name : Nat) : tyT tx name 0 = 97 + name % 5 := by unfold tyT; rw [zU_n _ _ (by decide), zU_s]
theorem tyT_1 (tx : Nat → Nat) (name : Nat) : tyT tx name 1 = 97 + name / 5 % 20 := zU_s _ _ _
theorem tyT_l (tx : Nat → Nat) (name : Nat) : ∀ j, j < 2 → 97 ≤ tyT tx name (0 + j) ∧ tyT tx name (0 + j) ≤ 122 := by
  intro j hj
  rcases (show j = 0 ∨ j = 1 by omega) with rfl | rfl
  · rw [show (0 + 0 : Nat) = 0 from rfl, tyT_0]; omega
  · rw [show (0 + 1 : Nat) = 1 from rfl, tyT_1]; omega
theorem nb_ty0 (tx : Nat → Nat) (name : Nat) : nbF (tyT tx name) 0 2 = pkF (tyT tx name) 0 2 := by
  unfold nbF
  rw [if_pos ⟨by decide, tyT_l tx name⟩]
theorem ltF_ty (tx : Nat → Nat) (name r : Nat) (hr : r < 6) : ltF (nbF (tyT tx name) 0 2) r = if r < 2 then tyT tx name (0 + r) - 96 else 0 := by
  rw [nb_ty0]
  exact pkF_dig 2 (by decide) (tyT_l tx name) r hr
theorem nb_ty (tx : Nat → Nat) (name : Nat) : nbF (tyT tx name) 0 2 = n2F name := by
  refine dig_ext (nbF_lt _ _ _) (nbF_lt _ _ _) (fun r hr => ?_)
  rw [ltF_ty tx name r hr, show ltF (n2F name) r = _ from ltF_ty (fun _ => 0) name r hr]
  rcases (show r = 0 ∨ r = 1 ∨ 2 ≤ r by omega) with rfl | rfl | h
  · rw [show (0 + 0 : Nat) = 0 from rfl, tyT_0, tyT_0]
  · rw [show (0 + 1 : Nat) = 1 from rfl, tyT_1, tyT_1]
  · rw [if_neg (by omega), if_neg (by omega)]
theorem n2F_l (name : Nat) : ltF (n2F name) 0 ≠ 0 := by
  have := ltF_ty (fun _ => 0) name 0 (by decide)
  rw [if_pos (by decide), show (0 + 0 : Nat) = 0 from rfl, tyT_0] at this
  unfold n2F
  omega
theorem n2F_lt (name : Nat) : n2F name < 1073741824 := nbF_lt _ _ _
theorem n2F_0 (name : Nat) : n2F name ≠ 0 := by
  intro h
  have := n2F_l name
  rw [h] at this
  exact this (by decide)
theorem nb_ty1 (tx : Nat → Nat) (name : Nat) : nbF (tyT tx name) 0 2 ≠ 0 := by rw [nb_ty]; exact n2F_0 name
/-- what is told of a state -/
def leF (nm j : Nat) : Int := if ltF nm j = 0 then -2 else ((96 + ltF nm j : Nat) : Int)
def tdA (s : StV) : Nat → Int64
  | 0 => 89 * (zI ((s.2.2.2.2.2.1 : Nat) : Int)).toInt64 + (zI ((s.2.2.2.2.2.2.1 : Nat) : Int)).toInt64
  | i + 1 => 31 * (31 * (31 * (31 * (31 * tdA s i + (zI ((s.1 i % 1000 : Nat) : Int)).toInt64) + (zI ((s.1 i / 1000 : Nat) : Int)).toInt64) + (zI (leF (s.2.1 i) 0)).toInt64) + (zI (leF (s.2.1 i) 1)).toInt64) + (zI (leF (s.2.1 i) 2)).toInt64
def tdB (s : StV) : Nat → Int64
  | 0 => tdA s s.2.2.2.2.1
  | i + 1 => 7 * tdB s i + (zI ((s.2.2.1 i : Nat) : Int)).toInt64
def tdC (s : StV) : Nat → Int64
  | 0 => tdB s 64
  | i + 1 => 31 * tdC s i + (zI (s.2.2.2.1 i)).toInt64
def tdF (s : StV) : Int64 := tdC s 4
theorem tyT_lt {tx : Nat → Nat} (h : ∀ j, j < 80 → tx j < 128) (name : Nat) : ∀ j, j < 80 → tyT tx name j < 128 := by
  unfold tyT
  exact zU_tx (zU_tx h (by omega)) (by omega)
