/-! plain numbers for the reference's texts -/
abbrev PsV := Nat × Int × Nat × Nat × Nat × Nat
def ltC (tx : Nat → Nat) (ln a : Nat) : Nat → Bool := fun j => decide (¬ (a + j < ln ∧ (97 ≤ tx (a + j) ∧ tx (a + j) ≤ 122)))
/-- how many letters, at most six, from a place on -/
def rnF (tx : Nat → Nat) (ln a : Nat) : Nat := fiF (ltC tx ln a) 6
theorem rnF_eq {tx : Nat → Nat} {ln a i : Nat} (hi : i ≤ 6) (hj : ∀ j, j < i → ltC tx ln a j = false) (h : i < 6 → ltC tx ln a i = true) : rnF tx ln a = i := fiF_eq hi hj h
theorem rnF_le (tx : Nat → Nat) (ln a : Nat) : rnF tx ln a ≤ 6 := fiF_le _ _
theorem rnF_in {tx : Nat → Nat} {ln a j : Nat} (h : j < rnF tx ln a) : a + j < ln ∧ (97 ≤ tx (a + j) ∧ tx (a + j) ≤ 122) :=
  Classical.not_not.mp (of_decide_eq_false (fiF_no (ltC tx ln a) 6 j h))
theorem rnF_ln (tx : Nat → Nat) {ln a : Nat} (h : a ≤ ln) : a + rnF tx ln a ≤ ln := by
  rcases Nat.eq_zero_or_pos (rnF tx ln a) with h0 | h0
  · omega
  · have := (rnF_in (tx := tx) (ln := ln) (a := a) (j := rnF tx ln a - 1) (by omega)).1
    omega
def rc1 (tx : Nat → Nat) (ln a : Nat) : Nat := if a < ln ∧ (tx a = 43 ∨ tx a = 45) then a + 1 else a
def rcE (tx : Nat → Nat) (ln a : Nat) : Nat := rc1 tx ln a + rnF tx ln (rc1 tx ln a)
/-- a command read: the place behind it, its kind, its names -/
def rcP (tx : Nat → Nat) (ln a f2 l2 : Nat) : PsV :=
  if (a < ln ∧ (tx a = 43 ∨ tx a = 45)) ∨ rnF tx ln (rc1 tx ln a) = 0 then (rcE tx ln a, (if a < ln then ((tx a : Nat) : Int) else 0), rc1 tx ln a, rnF tx ln (rc1 tx ln a), f2, l2)
  else if rcE tx ln a < ln ∧ tx (rcE tx ln a) = 61 then (rcE tx ln a + 1 + rnF tx ln (rcE tx ln a + 1), 61, rc1 tx ln a, rnF tx ln (rc1 tx ln a), rcE tx ln a + 1, rnF tx ln (rcE tx ln a + 1))
  else (rcE tx ln a, 61, rc1 tx ln a, rnF tx ln (rc1 tx ln a), f2, l2)
abbrev rcB (tx : Nat → Nat) (ln a : Nat) : Prop := 0 < rnF tx ln (rc1 tx ln a) ∧ ((a < ln ∧ (tx a = 43 ∨ tx a = 45)) ∨ ((rcE tx ln a < ln ∧ tx (rcE tx ln a) = 61) ∧ 0 < rnF tx ln (rcE tx ln a + 1)))
theorem rc1_le (tx : Nat → Nat) {ln a : Nat} (h : a ≤ ln) : rc1 tx ln a ≤ ln := by
  unfold rc1
  split <;> omega
theorem rcE_le (tx : Nat → Nat) {ln a : Nat} (h : a ≤ ln) : rcE tx ln a ≤ ln := rnF_ln tx (rc1_le tx h)
theorem rcX (tx : Nat → Nat) (ln a f2 l2 : Nat) :
    ((a < ln ∧ tx a = 43 ∧ rc1 tx ln a = a + 1) ∧ rcP tx ln a f2 l2 = (rcE tx ln a, ((tx a : Nat) : Int), rc1 tx ln a, rnF tx ln (rc1 tx ln a), f2, l2) ∧ (rcB tx ln a ↔ 0 < rnF tx ln (rc1 tx ln a))) ∨
    ((a < ln ∧ tx a = 45 ∧ rc1 tx ln a = a + 1) ∧ rcP tx ln a f2 l2 = (rcE tx ln a, ((tx a : Nat) : Int), rc1 tx ln a, rnF tx ln (rc1 tx ln a), f2, l2) ∧ (rcB tx ln a ↔ 0 < rnF tx ln (rc1 tx ln a))) ∨
    ((ln ≤ a ∧ rc1 tx ln a = a ∧ rnF tx ln (rc1 tx ln a) = 0) ∧ rcP tx ln a f2 l2 = (rcE tx ln a, 0, rc1 tx ln a, rnF tx ln (rc1 tx ln a), f2, l2) ∧ (rcB tx ln a ↔ 1 = 0)) ∨
    ((a < ln ∧ tx a ≠ 43 ∧ tx a ≠ 45 ∧ rc1 tx ln a = a ∧ rnF tx ln (rc1 tx ln a) = 0) ∧ rcP tx ln a f2 l2 = (rcE tx ln a, ((tx a : Nat) : Int), rc1 tx ln a, rnF tx ln (rc1 tx ln a), f2, l2) ∧ (rcB tx ln a ↔ 1 = 0)) ∨
    ((a < ln ∧ tx a ≠ 43 ∧ tx a ≠ 45 ∧ rc1 tx ln a = a ∧ 0 < rnF tx ln (rc1 tx ln a) ∧ rcE tx ln a < ln ∧ tx (rcE tx ln a) = 61) ∧ rcP tx ln a f2 l2 = (rcE tx ln a + 1 + rnF tx ln (rcE tx ln a + 1), 61, rc1 tx ln a, rnF tx ln (rc1 tx ln a), rcE tx ln a + 1, rnF tx ln (rcE tx ln a + 1)) ∧ (rcB tx ln a ↔ 0 < rnF tx ln (rcE tx ln a + 1))) ∨
    ((a < ln ∧ tx a ≠ 43 ∧ tx a ≠ 45 ∧ rc1 tx ln a = a ∧ 0 < rnF tx ln (rc1 tx ln a) ∧ ¬ (rcE tx ln a < ln ∧ tx (rcE tx ln a) = 61)) ∧ rcP tx ln a f2 l2 = (rcE tx ln a, 61, rc1 tx ln a, rnF tx ln (rc1 tx ln a), f2, l2) ∧ (rcB tx ln a ↔ 1 = 0)) := by
  by_cases h0 : a < ln
  · by_cases h1 : tx a = 43
    · refine .inl ⟨⟨h0, h1, if_pos ⟨h0, .inl h1⟩⟩, ?_, ?_⟩
      · unfold rcP; rw [if_pos (.inl ⟨h0, .inl h1⟩), if_pos h0]
      · exact ⟨fun z => z.1, fun z => ⟨z, .inl ⟨h0, .inl h1⟩⟩⟩
    · by_cases h2 : tx a = 45
      · refine .inr (.inl ⟨⟨h0, h2, if_pos ⟨h0, .inr h2⟩⟩, ?_, ?_⟩)
        · unfold rcP; rw [if_pos (.inl ⟨h0, .inr h2⟩), if_pos h0]
        · exact ⟨fun z => z.1, fun z => ⟨z, .inl ⟨h0, .inr h2⟩⟩⟩
      · have hm : ¬ (a < ln ∧ (tx a = 43 ∨ tx a = 45)) := by omega
        have hr : rc1 tx ln a = a := if_neg hm
        by_cases h3 : rnF tx ln (rc1 tx ln a) = 0
        · refine .inr (.inr (.inr (.inl ⟨⟨h0, h1, h2, hr, h3⟩, ?_, ?_⟩)))
          · unfold rcP; rw [if_pos (.inr h3), if_pos h0]
          · exact ⟨fun z => absurd z.1 (by omega), fun z => absurd z (by omega)⟩
        · have h3' : 0 < rnF tx ln (rc1 tx ln a) := by omega
          by_cases h4 : rcE tx ln a < ln ∧ tx (rcE tx ln a) = 61
          · refine .inr (.inr (.inr (.inr (.inl ⟨⟨h0, h1, h2, hr, h3', h4.1, h4.2⟩, ?_, ?_⟩))))
            · unfold rcP; rw [if_neg (fun z => z.elim hm h3), if_pos h4]
            · exact ⟨fun z => z.2.elim (fun w => absurd w hm) (fun w => w.2), fun z => ⟨h3', .inr ⟨h4, z⟩⟩⟩
          · refine .inr (.inr (.inr (.inr (.inr ⟨⟨h0, h1, h2, hr, h3', h4⟩, ?_, ?_⟩))))
            · unfold rcP; rw [if_neg (fun z => z.elim hm h3), if_neg h4]
            · exact ⟨fun z => z.2.elim (fun w => absurd w hm) (fun w => absurd w.1 h4), fun z => absurd z (by omega)⟩
  · have hm : ¬ (a < ln ∧ (tx a = 43 ∨ tx a = 45)) := by omega
    have hr : rc1 tx ln a = a := if_neg hm
    have h3 : rnF tx ln (rc1 tx ln a) = 0 := by
      rcases Nat.eq_zero_or_pos (rnF tx ln (rc1 tx ln a)) with h | h
      · exact h
      · have := (rnF_in h).1; omega
    refine .inr (.inr (.inl ⟨⟨by omega, hr, h3⟩, ?_, ?_⟩))
    · unfold rcP; rw [if_pos (.inr h3), if_neg h0]
    · exact ⟨fun z => absurd z.1 (by omega), fun z => absurd z (by omega)⟩
theorem rcP_le (tx : Nat → Nat) {ln a : Nat} (f2 l2 : Nat) (h : a ≤ ln) : (rcP tx ln a f2 l2).1 ≤ ln := by
  have h1 := rcE_le tx h
  rcases rcX tx ln a f2 l2 with ⟨hk, hw, hb⟩ | ⟨hk, hw, hb⟩ | ⟨hk, hw, hb⟩ | ⟨hk, hw, hb⟩ | ⟨hk, hw, hb⟩ | ⟨hk, hw, hb⟩ <;> rw [hw]
  · exact h1
  · exact h1
  · exact h1
  · exact h1
  · exact rnF_ln tx (by omega)
  · exact h1
theorem rcP_lt {tx : Nat → Nat} {ln a : Nat} (f2 l2 : Nat) (h : rcB tx ln a) : a < (rcP tx ln a f2 l2).1 := by
  have h1 := h.1
  rcases rcX tx ln a f2 l2 with ⟨hk, hw, hb⟩ | ⟨hk, hw, hb⟩ | ⟨hk, hw, hb⟩ | ⟨hk, hw, hb⟩ | ⟨hk, hw, hb⟩ | ⟨hk, hw, hb⟩ <;> rw [hw]
  · show a < rc1 tx ln a + rnF tx ln (rc1 tx ln a); omega
  · show a < rc1 tx ln a + rnF tx ln (rc1 tx ln a); omega
  · exact absurd (hb.mp h) (by omega)
  · exact absurd (hb.mp h) (by omega)
  · show a < rc1 tx ln a + rnF tx ln (rc1 tx ln a) + 1 + _; omega
  · exact absurd (hb.mp h) (by omega)
theorem rcP_ok {tx : Nat → Nat} {ln a : Nat} (f2 l2 : Nat) (ha : a ≤ ln) (hl : ln ≤ 80) (h : rcB tx ln a) : ((rcP tx ln a f2 l2).2.1 = 43 ∨ (rcP tx ln a f2 l2).2.1 = 45 ∨ (rcP tx ln a f2 l2).2.1 = 61) ∧ (rcP tx ln a f2 l2).2.2.1 + (rcP tx ln a f2 l2).2.2.2.1 ≤ 80 ∧ (rcP tx ln a f2 l2).2.2.2.1 ≤ 6 ∧ (∀ j, j < (rcP tx ln a f2 l2).2.2.2.1 → 97 ≤ tx ((rcP tx ln a f2 l2).2.2.1 + j) ∧ tx ((rcP tx ln a f2 l2).2.2.1 + j) ≤ 122) ∧
    ((rcP tx ln a f2 l2).2.1 = 61 → (rcP tx ln a f2 l2).2.2.2.2.1 + (rcP tx ln a f2 l2).2.2.2.2.2 ≤ 80 ∧ (rcP tx ln a f2 l2).2.2.2.2.2 ≤ 6 ∧ ∀ j, j < (rcP tx ln a f2 l2).2.2.2.2.2 → 97 ≤ tx ((rcP tx ln a f2 l2).2.2.2.2.1 + j) ∧ tx ((rcP tx ln a f2 l2).2.2.2.2.1 + j) ≤ 122) := by
  have e1 : rc1 tx ln a + rnF tx ln (rc1 tx ln a) ≤ 80 := Nat.le_trans (rcE_le tx ha) hl
  have e2 := rnF_le tx ln (rc1 tx ln a)
  have e3 : ∀ j, j < rnF tx ln (rc1 tx ln a) → 97 ≤ tx (rc1 tx ln a + j) ∧ tx (rc1 tx ln a + j) ≤ 122 := fun j hj => (rnF_in hj).2
  rcases rcX tx ln a f2 l2 with ⟨hk, hw, hb⟩ | ⟨hk, hw, hb⟩ | ⟨hk, hw, hb⟩ | ⟨hk, hw, hb⟩ | ⟨hk, hw, hb⟩ | ⟨hk, hw, hb⟩ <;> rw [hw]
  · refine ⟨.inl ?_, e1, e2, e3, fun z => ?_⟩
    · show ((tx a : Nat) : Int) = 43; omega
    · have z : ((tx a : Nat) : Int) = 61 := z
      omega
  · refine ⟨.inr (.inl ?_), e1, e2, e3, fun z => ?_⟩
    · show ((tx a : Nat) : Int) = 45; omega
    · have z : ((tx a : Nat) : Int) = 61 := z
      omega
  · exact absurd (hb.mp h) (by omega)
  · exact absurd (hb.mp h) (by omega)
  · exact ⟨.inr (.inr rfl), e1, e2, e3, fun _ => ⟨Nat.le_trans (rnF_ln tx (a := rcE tx ln a + 1) (by omega)) hl, rnF_le _ _ _, fun j hj => (rnF_in hj).2⟩⟩
  · exact absurd (hb.mp h) (by omega)
/-- commands from a place on -/
def acF (tx : Nat → Nat) (ln : Nat) : Nat → PsV → Bool × PsV
  | 0, p => (false, p)
  | k + 1, p => if rcB tx ln p.1 then (if (rcP tx ln p.1 p.2.2.2.2.1 p.2.2.2.2.2).1 = ln then (true, rcP tx ln p.1 p.2.2.2.2.1 p.2.2.2.2.2) else if (rcP tx ln p.1 p.2.2.2.2.1 p.2.2.2.2.2).1 < ln ∧ tx (rcP tx ln p.1 p.2.2.2.2.1 p.2.2.2.2.2).1 = 59 then acF tx ln k ((rcP tx ln p.1 p.2.2.2.2.1 p.2.2.2.2.2).1 + 1, (rcP tx ln p.1 p.2.2.2.2.1 p.2.2.2.2.2).2) else (false, rcP tx ln p.1 p.2.2.2.2.1 p.2.2.2.2.2)) else (false, rcP tx ln p.1 p.2.2.2.2.1 p.2.2.2.2.2)
theorem acF_next {tx : Nat → Nat} {ln n : Nat} {p : PsV} (hn : 0 < n) (hb : rcB tx ln p.1) (h1 : (rcP tx ln p.1 p.2.2.2.2.1 p.2.2.2.2.2).1 ≠ ln) (h2 : (rcP tx ln p.1 p.2.2.2.2.1 p.2.2.2.2.2).1 < ln ∧ tx (rcP tx ln p.1 p.2.2.2.2.1 p.2.2.2.2.2).1 = 59) : acF tx ln n p = acF tx ln (n - 1) ((rcP tx ln p.1 p.2.2.2.2.1 p.2.2.2.2.2).1 + 1, (rcP tx ln p.1 p.2.2.2.2.1 p.2.2.2.2.2).2) := by
  obtain ⟨k, rfl⟩ : ∃ k, n = k + 1 := ⟨n - 1, by omega⟩
  rw [acF, if_pos hb, if_neg h1, if_pos h2, Nat.add_sub_cancel]
theorem acF_t {tx : Nat → Nat} {ln n : Nat} {p : PsV} (hn : 0 < n) (hb : rcB tx ln p.1) (h1 : (rcP tx ln p.1 p.2.2.2.2.1 p.2.2.2.2.2).1 = ln) : acF tx ln n p = (true, rcP tx ln p.1 p.2.2.2.2.1 p.2.2.2.2.2) := by
  obtain ⟨k, rfl⟩ : ∃ k, n = k + 1 := ⟨n - 1, by omega⟩
  rw [acF, if_pos hb, if_pos h1]
theorem acF_f1 {tx : Nat → Nat} {ln n : Nat} {p : PsV} (hn : 0 < n) (hb : rcB tx ln p.1) (h1 : (rcP tx ln p.1 p.2.2.2.2.1 p.2.2.2.2.2).1 ≠ ln) (h2 : ¬ ((rcP tx ln p.1 p.2.2.2.2.1 p.2.2.2.2.2).1 < ln ∧ tx (rcP tx ln p.1 p.2.2.2.2.1 p.2.2.2.2.2).1 = 59)) : acF tx ln n p = (false, rcP tx ln p.1 p.2.2.2.2.1 p.2.2.2.2.2) := by
  obtain ⟨k, rfl⟩ : ∃ k, n = k + 1 := ⟨n - 1, by omega⟩
  rw [acF, if_pos hb, if_neg h1, if_neg h2]
theorem acF_f2 {tx : Nat → Nat} {ln n : Nat} {p : PsV} (hn : 0 < n) (hb : ¬ rcB tx ln p.1) : acF tx ln n p = (false, rcP tx ln p.1 p.2.2.2.2.1 p.2.2.2.2.2) := by
  obtain ⟨k, rfl⟩ : ∃ k, n = k + 1 := ⟨n - 1, by omega⟩
  rw [acF, if_neg hb]
/-- one command done, nothing if it cannot be -/
def isD (tx : Nat → Nat) (sg : Int) (f1 l1 f2 l2 cnt : Nat) (g : Nat → Int) : Option (Nat → Int) :=
  if sg = 43 then (if (fo2 (mN g tx f1 l1) cnt = -2 ∧ g 1 < 1000) ∧ cnt < 40 then some (mkR g tx f1 l1 cnt) else none)
  else if fo2 (mN g tx f1 l1) cnt ≠ -2 ∧ (sg = 61 → fo2 (mN g tx f2 l2) cnt = -2 ∧ g 1 < 1000) then (if sg = 61 then some (mkR (mtR g cnt (fo2 (mN g tx f1 l1) cnt).toNat) tx f2 l2 (cnt - 1)) else some (mtR g cnt (fo2 (mN g tx f1 l1) cnt).toNat)) else none
theorem isD_add {tx : Nat → Nat} {sg : Int} {f1 l1 f2 l2 cnt : Nat} {g g9 : Nat → Int} (h : sg = 43) (hok : isD tx sg f1 l1 f2 l2 cnt g = some g9) : ((fo2 (mN g tx f1 l1) cnt = -2 ∧ g 1 < 1000) ∧ cnt < 40) ∧ g9 = mkR g tx f1 l1 cnt := by
  unfold isD at hok; rw [if_pos h] at hok
  split at hok
  · rename_i h1; exact ⟨h1, (Option.some.inj hok).symm⟩
  · cases hok
theorem isD_addN {tx : Nat → Nat} {sg : Int} {f1 l1 f2 l2 cnt : Nat} {g : Nat → Int} (h : sg = 43) (hok : isD tx sg f1 l1 f2 l2 cnt g = none) : ¬ ((fo2 (mN g tx f1 l1) cnt = -2 ∧ g 1 < 1000) ∧ cnt < 40) := by
  unfold isD at hok; rw [if_pos h] at hok
  split at hok
  · cases hok
  · rename_i h1; exact h1
theorem isD_else {tx : Nat → Nat} {sg : Int} {f1 l1 f2 l2 cnt : Nat} {g g9 : Nat → Int} (h : sg ≠ 43) (hok : isD tx sg f1 l1 f2 l2 cnt g = some g9) : fo2 (mN g tx f1 l1) cnt ≠ -2 ∧ (sg = 61 → fo2 (mN g tx f2 l2) cnt = -2 ∧ g 1 < 1000) := by
  unfold isD at hok; rw [if_neg h] at hok
  split at hok
  · rename_i h1; exact h1
  · cases hok
theorem isD_elseN {tx : Nat → Nat} {sg : Int} {f1 l1 f2 l2 cnt : Nat} {g : Nat → Int} (h : sg ≠ 43) (hok : isD tx sg f1 l1 f2 l2 cnt g = none) : fo2 (mN g tx f1 l1) cnt ≠ -2 → (sg = 61 ∧ ¬ (fo2 (mN g tx f2 l2) cnt = -2 ∧ g 1 < 1000)) := by
  unfold isD at hok; rw [if_neg h] at hok
  split at hok
  · split at hok <;> cases hok
  · rename_i h1
    intro h2
    by_cases h3 : sg = 61
    · exact ⟨h3, fun h4 => h1 ⟨h2, fun _ => h4⟩⟩
    · exact absurd ⟨h2, fun z => absurd z h3⟩ h1
theorem isD_sub {tx : Nat → Nat} {sg : Int} {f1 l1 f2 l2 cnt : Nat} {g g9 : Nat → Int} (h : sg = 45) (hok : isD tx sg f1 l1 f2 l2 cnt g = some g9) : g9 = mtR g cnt (fo2 (mN g tx f1 l1) cnt).toNat := by
  unfold isD at hok; rw [if_neg (by omega)] at hok
  split at hok
  · rw [if_neg (by omega)] at hok; exact (Option.some.inj hok).symm
  · cases hok
theorem isD_ren {tx : Nat → Nat} {sg : Int} {f1 l1 f2 l2 cnt : Nat} {g g9 : Nat → Int} (h : sg = 61) (hok : isD tx sg f1 l1 f2 l2 cnt g = some g9) : g9 = mkR (mtR g cnt (fo2 (mN g tx f1 l1) cnt).toNat) tx f2 l2 (cnt - 1) := by
  unfold isD at hok; rw [if_neg (by omega)] at hok
  split at hok
  · first | exact (Option.some.inj hok).symm | (rw [if_pos h] at hok; exact (Option.some.inj hok).symm)
  · cases hok
theorem mI_h {g : Nat → Int} {k : Nat} (hs : ∀ k, k < 40 → 0 ≤ mI g k 1 ∧ mI g k 1 < 64) (hk : k < 40) : (mI g k 1).toNat < 64 := by have := hs k hk; omega
/-- what the splits leave as it is -/
theorem msF_n {h cnt : Nat} (hh : h < 64) {j : Nat} (h3 : j ≠ 2) (hj : j < 8 ∨ 72 ≤ j) : ∀ k d g, d + k < 7 → msF h cnt k d g j = g j
  | 0, d, g, _ => rfl
  | k + 1, d, g, hd => by
    unfold msF
    split
    · rw [msF_n hh h3 hj k (d + 1) _ (by omega), zU_n _ _ h3, zU_n]
      have := ndF_lt5 hh (show d < 6 by omega)
      omega
    · rfl
theorem msF_2 {h cnt : Nat} (hh : h < 64) : ∀ k d g, d + k < 7 → g 2 ≤ msF h cnt k d g 2 ∧ msF h cnt k d g 2 ≤ g 2 + ((k : Nat) : Int)
  | 0, d, g, _ => by show g 2 ≤ g 2 ∧ g 2 ≤ g 2 + 0; omega
  | k + 1, d, g, hd => by
    unfold msF
    split
    · have := msF_2 (cnt := cnt) hh k (d + 1) (zU (zU g (8 + ndF h d) 1) 2 (g 2 + 1)) (by omega)
      rw [zU_s] at this
      omega
    · omega
theorem msF_rg {h cnt : Nat} (hh : h < 64) : ∀ k d g, d + k < 7 → (∀ k, k < 432 → -2 ≤ g k ∧ g k < 70000) → 0 ≤ g 2 → g 2 + ((k : Nat) : Int) < 70000 → ∀ j, j < 432 → -2 ≤ msF h cnt k d g j ∧ msF h cnt k d g j < 70000
  | 0, d, g, _, hg, _, _ => hg
  | k + 1, d, g, hd, hg, h0, h3 => by
    unfold msF
    split
    · exact msF_rg hh k (d + 1) _ (by omega) (zU2_rg hg (by omega) (by omega)) (by rw [zU_s]; omega) (by rw [zU_s]; omega)
    · exact hg
/-- the reference's state between commands: ranges, splits and merges up to bounds -/
def okM (a b : Int) (g : Nat → Int) : Prop := g 0 = (((g 0).toNat : Nat) : Int) ∧ (g 0).toNat ≤ 40 ∧ (∀ k, k < 432 → -2 ≤ g k ∧ g k < 70000) ∧ (∀ k, k < 40 → 0 ≤ mI g k 1 ∧ mI g k 1 < 64) ∧ (0 ≤ g 1 ∧ g 1 < 2000) ∧ (0 ≤ g 2 ∧ g 2 ≤ a) ∧ (0 ≤ g 3 ∧ g 3 ≤ b)
theorem okM_0 {g : Nat → Int} {cnt sv : Nat} (hcn : g 0 = ((cnt : Nat) : Int)) (hc : cnt ≤ 40) (hg : ∀ k, k < 432 → -2 ≤ g k ∧ g k < 70000) (hs : ∀ k, k < 40 → 0 ≤ mI g k 1 ∧ mI g k 1 < 64) (h1 : 0 ≤ g 1 ∧ g 1 < 2000) (h2 : 0 ≤ g 2 ∧ g 2 < 49000) (h3 : 0 ≤ g 3 ∧ g 3 < 49000) (hsv : sv ≤ 6) : okM (g 2 + 6 * ((0 : Nat) : Int)) (g 3 + 6 * ((0 : Nat) : Int)) (kpG g sv) := by
  have e0 := kpG_lo g hsv (show 0 < 432 by omega)
  have e1 := kpG_lo g hsv (show 1 < 432 by omega)
  have e2 := kpG_lo g hsv (show 2 < 432 by omega)
  have e3 := kpG_lo g hsv (show 3 < 432 by omega)
  refine ⟨by rw [e0]; omega, by rw [e0]; omega, kp_rg hsv hg, kp_hs hsv hs, by rw [e1]; exact h1, by rw [e2]; omega, by rw [e3]; omega⟩
theorem okM_mk {a b : Int} {g : Nat → Int} {tx : Nat → Nat} {f z cnt : Nat} (h : okM a b g) (hcn : g 0 = ((cnt : Nat) : Int)) (hc : cnt < 40) (ha : a < 60000) (h1 : g 1 < 1000) (ht : ∀ j, j < 80 → tx j < 128) (hf : f + z ≤ 80) (hz : z ≤ 6) : okM (a + 6) b (mkR g tx f z cnt) := by
  obtain ⟨i1, i2, i3, i4, i5, i6, i7⟩ := h
  have hh := hhF_lt tx f z
  have hp := mpF_le g (1000 * ((hhF tx f z : Nat) : Int) + g 1) cnt
  have hG := mkG_rg i3 ht hc hp ⟨i5.1, h1⟩ hf hz
  have hS := mkG_hs (tx := tx) (a := f) (z := z) i4 hc hp hh
  have hd := dpF_le (mkG g tx f z cnt (mpF g (1000 * ((hhF tx f z : Nat) : Int) + g 1) cnt)) (hhF tx f z) 6 0
  have k0 := mkG_0 g tx f z cnt (mpF g (1000 * ((hhF tx f z : Nat) : Int) + g 1) cnt)
  have k1 : mkG g tx f z cnt (mpF g (1000 * ((hhF tx f z : Nat) : Int) + g 1) cnt) 1 = g 1 + 1 := zU_s _ _ _
  have k2 := mkG_lo g tx f z cnt (mpF g (1000 * ((hhF tx f z : Nat) : Int) + g 1) cnt) (j := 2) (by omega) (by omega)
  have k3 := mkG_lo g tx f z cnt (mpF g (1000 * ((hhF tx f z : Nat) : Int) + g 1) cnt) (j := 3) (by omega) (by omega)
  generalize hq : mkG g tx f z cnt (mpF g (1000 * ((hhF tx f z : Nat) : Int) + g 1) cnt) = G at *
  have e : mkR g tx f z cnt = msF (hhF tx f z) (cnt + 1) (6 - dpF G (hhF tx f z) 6 0) (dpF G (hhF tx f z) 6 0) G := by unfold mkR; rw [hq]
  generalize dpF G (hhF tx f z) 6 0 = d at *
  have n0 := msF_n (cnt := cnt + 1) hh (j := 0) (by omega) (by omega) (6 - d) d G (by omega)
  have n1 := msF_n (cnt := cnt + 1) hh (j := 1) (by omega) (by omega) (6 - d) d G (by omega)
  have n3 := msF_n (cnt := cnt + 1) hh (j := 3) (by omega) (by omega) (6 - d) d G (by omega)
  have n2 := msF_2 (cnt := cnt + 1) hh (6 - d) d G (by omega)
  rw [e]
  refine ⟨by rw [n0]; omega, by rw [n0]; omega, msF_rg hh _ _ _ (by omega) hG (by omega) (by omega), fun k hk => ?_, by rw [n1]; omega, by omega, by rw [n3]; omega⟩
  have : mI (msF (hhF tx f z) (cnt + 1) (6 - d) d G) k 1 = mI G k 1 := msF_n hh (by omega) (by omega) _ _ _ (by omega)
  rw [this]
  exact hS k hk
theorem okM_mt {a b : Int} {g : Nat → Int} {cnt k : Nat} (h : okM a b g) (hcn : g 0 = ((cnt : Nat) : Int)) (hc : cnt ≤ 40) (hb : b < 50000) (hk : k < 40) : okM a (b + 6) (mtR g cnt k) := by
  obtain ⟨i1, i2, i3, i4, i5, i6, i7⟩ := h
  have hh := mI_h i4 hk
  have n0 := mtR_0 g cnt k hh
  have n1 := mtR_1 g cnt k hh
  have n2 := mtR_2 g cnt k hh
  have hd := dpF_le (mtF g cnt k (9 * (cnt - 1))) (mI g k 1).toNat 6 0
  have n3 := mgM_3 (cnt := cnt - 1) hh (dpF (mtF g cnt k (9 * (cnt - 1))) (mI g k 1).toNat 6 0) (mtF g cnt k (9 * (cnt - 1))) (by omega)
  rw [mtF_lo _ _ _ _ (by omega) (by omega)] at n3
  have n3 : g 3 ≤ mtR g cnt k 3 ∧ mtR g cnt k 3 ≤ g 3 + ((dpF (mtF g cnt k (9 * (cnt - 1))) (mI g k 1).toNat 6 0 : Nat) : Int) := n3
  exact ⟨by rw [n0]; omega, by rw [n0]; omega, mtR_rg i3 hc (by omega) hh, mtR_hs i4 hc hh, by rw [n1]; exact i5, by rw [n2]; exact i6, by omega⟩
theorem okM_up {a b a2 b2 : Int} {g : Nat → Int} (h : okM a b g) (ha : a ≤ a2) (hb : b ≤ b2) : okM a2 b2 g := by
  obtain ⟨i1, i2, i3, i4, i5, i6, i7⟩ := h
  exact ⟨i1, i2, i3, i4, i5, by omega, by omega⟩
theorem okM_s {a b : Int} {g g9 : Nat → Int} {tx : Nat → Nat} {sg : Int} {f1 l1 f2 l2 ex : Nat} (h : okM (a + 6 * ((ex : Nat) : Int)) (b + 6 * ((ex : Nat) : Int)) g) (hj : (sg = 43 ∨ sg = 45 ∨ sg = 61) ∧ f1 + l1 ≤ 80 ∧ l1 ≤ 6 ∧ (∀ j, j < l1 → 97 ≤ tx (f1 + j) ∧ tx (f1 + j) ≤ 122) ∧ (sg = 61 → f2 + l2 ≤ 80 ∧ l2 ≤ 6 ∧ ∀ j, j < l2 → 97 ≤ tx (f2 + j) ∧ tx (f2 + j) ≤ 122))
    (ht : ∀ j, j < 80 → tx j < 128) (ha : a + 6 * ((ex : Nat) : Int) < 50000) (hb : b + 6 * ((ex : Nat) : Int) < 50000) (hok : isD tx sg f1 l1 f2 l2 (g 0).toNat g = some g9) : okM (a + 6 * ((ex + 1 : Nat) : Int)) (b + 6 * ((ex + 1 : Nat) : Int)) g9 := by
  have hc := h.2.1
  have hcn := h.1
  have hf := fo2_ge (mN g tx f1 l1) (g 0).toNat
  by_cases h1 : sg = 43
  · obtain ⟨h2, rfl⟩ := isD_add h1 hok
    exact okM_up (okM_mk h hcn h2.2 (by omega) h2.1.2 ht hj.2.1 hj.2.2.1) (by omega) (by omega)
  · have h2 := isD_else h1 hok
    have h3 := hf h2.1
    have hm := okM_mt (k := (fo2 (mN g tx f1 l1) (g 0).toNat).toNat) h hcn hc (by omega) (by omega)
    by_cases h4 : sg = 61
    · rw [isD_ren h4 hok]
      have h5 := h2.2 h4
      have h6 := hj.2.2.2.2 h4
      have hh := mI_h h.2.2.2.1 (show (fo2 (mN g tx f1 l1) (g 0).toNat).toNat < 40 by omega)
      exact okM_up (okM_mk hm (mtR_0 _ _ _ hh) (by omega) (by omega) (by rw [mtR_1 _ _ _ hh]; exact h5.2) ht h6.1 h6.2.1) (by omega) (by omega)
    · rw [isD_sub (by omega) hok]
      exact okM_up hm (by omega) (by omega)
/-- the commands done, up to the first that cannot be -/
def mxF (tx : Nat → Nat) (ln : Nat) : Nat → Nat → (Nat → Int) → PsV → Nat × (Nat → Int) × PsV
  | 0, ex, g, p => (ex, g, p)
  | k + 1, ex, g, p => if rcB tx ln p.1 then (match isD tx (rcP tx ln p.1 p.2.2.2.2.1 p.2.2.2.2.2).2.1 (rcP tx ln p.1 p.2.2.2.2.1 p.2.2.2.2.2).2.2.1 (rcP tx ln p.1 p.2.2.2.2.1 p.2.2.2.2.2).2.2.2.1 (rcP tx ln p.1 p.2.2.2.2.1 p.2.2.2.2.2).2.2.2.2.1 (rcP tx ln p.1 p.2.2.2.2.1 p.2.2.2.2.2).2.2.2.2.2 (g 0).toNat g with
      | none => (ex, g, rcP tx ln p.1 p.2.2.2.2.1 p.2.2.2.2.2)
      | some g9 => mxF tx ln k (ex + 1) g9 ((if (rcP tx ln p.1 p.2.2.2.2.1 p.2.2.2.2.2).1 < ln ∧ tx (rcP tx ln p.1 p.2.2.2.2.1 p.2.2.2.2.2).1 = 59 then (rcP tx ln p.1 p.2.2.2.2.1 p.2.2.2.2.2).1 + 1 else (rcP tx ln p.1 p.2.2.2.2.1 p.2.2.2.2.2).1), (rcP tx ln p.1 p.2.2.2.2.1 p.2.2.2.2.2).2)) else (ex, g, rcP tx ln p.1 p.2.2.2.2.1 p.2.2.2.2.2)
theorem mxF_e1 {tx : Nat → Nat} {ln n ex : Nat} {g : Nat → Int} {p : PsV} (hn : 0 < n) (hb : ¬ rcB tx ln p.1) : mxF tx ln n ex g p = (ex, g, rcP tx ln p.1 p.2.2.2.2.1 p.2.2.2.2.2) := by
  obtain ⟨k, rfl⟩ : ∃ k, n = k + 1 := ⟨n - 1, by omega⟩
  rw [mxF, if_neg hb]
theorem mxF_e2 {tx : Nat → Nat} {ln n ex : Nat} {g : Nat → Int} {p : PsV} (hn : 0 < n) (hb : rcB tx ln p.1) (h : isD tx (rcP tx ln p.1 p.2.2.2.2.1 p.2.2.2.2.2).2.1 (rcP tx ln p.1 p.2.2.2.2.1 p.2.2.2.2.2).2.2.1 (rcP tx ln p.1 p.2.2.2.2.1 p.2.2.2.2.2).2.2.2.1 (rcP tx ln p.1 p.2.2.2.2.1 p.2.2.2.2.2).2.2.2.2.1 (rcP tx ln p.1 p.2.2.2.2.1 p.2.2.2.2.2).2.2.2.2.2 (g 0).toNat g = none) : mxF tx ln n ex g p = (ex, g, rcP tx ln p.1 p.2.2.2.2.1 p.2.2.2.2.2) := by
  obtain ⟨k, rfl⟩ : ∃ k, n = k + 1 := ⟨n - 1, by omega⟩
  rw [mxF, if_pos hb, h]
theorem mxF_next {tx : Nat → Nat} {ln n ex v : Nat} {g g9 : Nat → Int} {p : PsV} (hn : 0 < n) (hb : rcB tx ln p.1) (h : isD tx (rcP tx ln p.1 p.2.2.2.2.1 p.2.2.2.2.2).2.1 (rcP tx ln p.1 p.2.2.2.2.1 p.2.2.2.2.2).2.2.1 (rcP tx ln p.1 p.2.2.2.2.1 p.2.2.2.2.2).2.2.2.1 (rcP tx ln p.1 p.2.2.2.2.1 p.2.2.2.2.2).2.2.2.2.1 (rcP tx ln p.1 p.2.2.2.2.1 p.2.2.2.2.2).2.2.2.2.2 (g 0).toNat g = some g9)
    (hv : (if (rcP tx ln p.1 p.2.2.2.2.1 p.2.2.2.2.2).1 < ln ∧ tx (rcP tx ln p.1 p.2.2.2.2.1 p.2.2.2.2.2).1 = 59 then (rcP tx ln p.1 p.2.2.2.2.1 p.2.2.2.2.2).1 + 1 else (rcP tx ln p.1 p.2.2.2.2.1 p.2.2.2.2.2).1) = v) : mxF tx ln n ex g p = mxF tx ln (n - 1) (ex + 1) g9 (v, (rcP tx ln p.1 p.2.2.2.2.1 p.2.2.2.2.2).2) := by
  obtain ⟨k, rfl⟩ : ∃ k, n = k + 1 := ⟨n - 1, by omega⟩
  rw [mxF, if_pos hb, h, ← hv, Nat.add_sub_cancel]
theorem fdv_ok2 {c n : Int} {cnt : Nat} (hcn : c = ((cnt : Nat) : Int)) (hc : cnt ≤ 40) (h : 0 < n ∧ n ≤ 64) : vf_n32 (FP.fdiv (FP.i2f (zI c)) (FP.i2f (zI n))) := by
  obtain ⟨k, rfl⟩ : ∃ k : Nat, n = (k : Int) := ⟨n.toNat, by omega⟩
  rw [hcn]
  exact fdv_ok hc (by omega) (by omega)
