/-! the text as commands: letter by letter, and command by command -/
theorem ce_run {tx : Nat → Nat} {ln a pt lt : Nat} (hp : pt = 1 ∨ pt = 2) : ∀ m, lt + m ≤ 6 → (∀ j, j < m → a + j < ln ∧ (97 ≤ tx (a + j) ∧ tx (a + j) ≤ 122)) → ceF tx ln (ln - a) a pt lt = ceF tx ln (ln - (a + m)) (a + m) pt (lt + m)
  | 0, _, _ => rfl
  | m + 1, hm, h => by
    rw [ce_run hp m (by omega) (fun j hj => h j (by omega))]
    obtain ⟨h1, h2⟩ := h m (by omega)
    have hpa : paC pt (lt + m) (tx (a + m)) = pt := by
      unfold paC plF
      rw [if_pos h2, if_pos (by omega), if_neg (by omega)]
    rw [ceF_next h1 (by rw [hpa]; omega), hpa, if_pos h2]
    rfl
theorem rnF_end {tx : Nat → Nat} {ln a : Nat} (h : rnF tx ln a < 6) : ¬ (a + rnF tx ln a < ln ∧ (97 ≤ tx (a + rnF tx ln a) ∧ tx (a + rnF tx ln a) ≤ 122)) :=
  of_decide_eq_true (fiF_yes (ltC tx ln a) 6 h)
theorem ce_last {tx : Nat → Nat} {ln a : Nat} (ha : a ≤ ln) : ceF tx ln (ln - a) a 2 0 = if rnF tx ln a = 0 then ((a : Nat) : Int) else if a + rnF tx ln a = ln then -2 else if tx (a + rnF tx ln a) = 59 then ceF tx ln (ln - (a + rnF tx ln a + 1)) (a + rnF tx ln a + 1) 0 0 else ((a + rnF tx ln a : Nat) : Int) := by
  have hle := rnF_ln tx ha
  have h6 := rnF_le tx ln a
  rw [ce_run (.inr rfl) (rnF tx ln a) (by omega) (fun j hj => rnF_in hj), Nat.zero_add]
  have hend := fun z => rnF_end (tx := tx) (ln := ln) (a := a) z
  generalize rnF tx ln a = m at *
  rcases Nat.eq_or_lt_of_le hle with he | he
  · rw [show ln - (a + m) = 0 by omega]
    show (if 2 = 2 ∧ 0 < m then (-2 : Int) else ((ln : Nat) : Int)) = _
    by_cases h0 : m = 0
    · rw [if_neg (by omega), if_pos h0]; omega
    · rw [if_pos (by omega), if_neg h0, if_pos he]
  · by_cases hl : 97 ≤ tx (a + m) ∧ tx (a + m) ≤ 122
    · have hm : m = 6 := by
        rcases Nat.lt_or_ge m 6 with z | z
        · exact absurd ⟨he, hl⟩ (hend z)
        · omega
      have hpa : paC 2 m (tx (a + m)) = 3 := by
        unfold paC plF
        rw [if_pos hl, if_neg (by omega)]
      rw [ceF_bad he hpa, if_neg (by omega), if_neg (by omega), if_neg (by omega)]
    · by_cases h0 : m = 0
      · have hpa : paC 2 m (tx (a + m)) = 3 := by
          unfold paC
          rw [if_neg hl, if_neg (by omega), if_pos h0]
        rw [ceF_bad he hpa, if_pos h0, h0, Nat.add_zero]
      · rw [if_neg h0, if_neg (by omega)]
        by_cases hc : tx (a + m) = 59
        · have hpa : paC 2 m (tx (a + m)) = 0 := by
            unfold paC
            rw [if_neg hl, if_neg (by omega), if_neg h0, if_neg (by omega), if_pos hc]
          rw [ceF_next he (by rw [hpa]; omega), hpa, if_neg hl, if_pos hc]
        · have hpa : paC 2 m (tx (a + m)) = 3 := by
            unfold paC
            rw [if_neg hl, if_neg (by omega), if_neg h0, if_neg (by omega), if_neg hc]
          rw [ceF_bad he hpa, if_neg hc]
theorem ce_sign {tx : Nat → Nat} {ln a : Nat} (h : a < ln) (hs : tx a = 43 ∨ tx a = 45) : ceF tx ln (ln - a) a 0 0 = ceF tx ln (ln - (a + 1)) (a + 1) 2 0 := by
  have hpa : paC 0 0 (tx a) = 2 := by
    unfold paC
    rw [if_neg (by omega), if_pos rfl, if_pos hs]
  rw [ceF_next h (by rw [hpa]; omega), hpa, if_neg (by omega)]
theorem ce_first {tx : Nat → Nat} {ln a : Nat} (ha : a ≤ ln) (hs : ¬ (a < ln ∧ (tx a = 43 ∨ tx a = 45))) : ceF tx ln (ln - a) a 0 0 = if rnF tx ln a = 0 then ((a : Nat) : Int) else if a + rnF tx ln a < ln ∧ tx (a + rnF tx ln a) = 61 then ceF tx ln (ln - (a + rnF tx ln a + 1)) (a + rnF tx ln a + 1) 2 0 else ((a + rnF tx ln a : Nat) : Int) := by
  have hle := rnF_ln tx ha
  have h6 := rnF_le tx ln a
  have hin := fun j => rnF_in (tx := tx) (ln := ln) (a := a) (j := j)
  have hend := fun z => rnF_end (tx := tx) (ln := ln) (a := a) z
  generalize rnF tx ln a = m at *
  by_cases h0 : m = 0
  · rw [if_pos h0]
    subst h0
    rw [Nat.add_zero] at hend
    rcases Nat.eq_or_lt_of_le ha with z | z
    · rw [show ln - a = 0 by omega]
      show (if (0 : Nat) = 2 ∧ 0 < 0 then (-2 : Int) else ((ln : Nat) : Int)) = _
      rw [if_neg (by omega)]; omega
    · have hpa : paC 0 0 (tx a) = 3 := by
        unfold paC
        rw [if_neg (fun w => hend (by omega) ⟨z, w⟩), if_pos rfl, if_neg (fun w => hs ⟨z, w⟩)]
      exact ceF_bad z hpa
  · rw [if_neg h0]
    have h00 := hin 0 (by omega)
    rw [Nat.add_zero] at h00
    have hpa : paC 0 0 (tx a) = 1 := by
      unfold paC plF
      rw [if_pos h00.2, if_pos (by omega), if_pos rfl]
    rw [ceF_next h00.1 (by rw [hpa]; omega), hpa, if_pos h00.2, ce_run (.inl rfl) (m - 1) (by omega) (fun j hj => by
      have := hin (j + 1) (by omega)
      rw [show a + 1 + j = a + (j + 1) by omega]; exact this), show a + 1 + (m - 1) = a + m by omega, show 0 + 1 + (m - 1) = m by omega]
    rcases Nat.eq_or_lt_of_le hle with he | he
    · rw [show ln - (a + m) = 0 by omega, if_neg (by omega)]
      show (if (1 : Nat) = 2 ∧ 0 < m then (-2 : Int) else ((ln : Nat) : Int)) = _
      rw [if_neg (by omega)]; omega
    · by_cases hl : 97 ≤ tx (a + m) ∧ tx (a + m) ≤ 122
      · have hm : m = 6 := by
          rcases Nat.lt_or_ge m 6 with z | z
          · exact absurd ⟨he, hl⟩ (hend z)
          · omega
        have hpa : paC 1 m (tx (a + m)) = 3 := by
          unfold paC plF
          rw [if_pos hl, if_neg (by omega)]
        rw [ceF_bad he hpa, if_neg (by omega)]
      · by_cases hc : tx (a + m) = 61
        · have hpa : paC 1 m (tx (a + m)) = 2 := by
            unfold paC
            rw [if_neg hl, if_neg (by omega), if_neg h0, if_pos rfl, if_pos hc]
          rw [ceF_next he (by rw [hpa]; omega), hpa, if_neg hl, if_pos ⟨he, hc⟩]
        · have hpa : paC 1 m (tx (a + m)) = 3 := by
            unfold paC
            rw [if_neg hl, if_neg (by omega), if_neg h0, if_pos rfl, if_neg hc]
          rw [ceF_bad he hpa, if_neg (by omega)]
/-- one command: where the letters' reading is behind it -/
theorem ce_cmd {tx : Nat → Nat} {ln a : Nat} (f2 l2 : Nat) (ha : a ≤ ln) : ceF tx ln (ln - a) a 0 0 = if rcB tx ln a then (if (rcP tx ln a f2 l2).1 = ln then -2 else if (rcP tx ln a f2 l2).1 < ln ∧ tx (rcP tx ln a f2 l2).1 = 59 then ceF tx ln (ln - ((rcP tx ln a f2 l2).1 + 1)) ((rcP tx ln a f2 l2).1 + 1) 0 0 else (((rcP tx ln a f2 l2).1 : Nat) : Int)) else (((rcP tx ln a f2 l2).1 : Nat) : Int) := by
  have hq := rcP_le tx f2 l2 ha
  have hE : rcE tx ln a = rc1 tx ln a + rnF tx ln (rc1 tx ln a) := rfl
  rcases rcX tx ln a f2 l2 with ⟨hk, hw, hb⟩ | ⟨hk, hw, hb⟩ | ⟨hk, hw, hb⟩ | ⟨hk, hw, hb⟩ | ⟨hk, hw, hb⟩ | ⟨hk, hw, hb⟩ <;> rw [hw] at hq ⊢ <;> dsimp only at hq ⊢
  · rw [ce_sign hk.1 (.inl hk.2.1), ce_last (by omega), ← hk.2.2, ← hE]
    by_cases h0 : rnF tx ln (rc1 tx ln a) = 0
    · rw [if_pos h0, if_neg (fun z => by have := hb.mp z; omega), hE, h0, Nat.add_zero]
    · rw [if_neg h0, if_pos (hb.mpr (by omega))]
      by_cases h1 : rcE tx ln a = ln
      · rw [if_pos h1, if_pos h1]
      · rw [if_neg h1, if_neg h1]
        by_cases h2 : tx (rcE tx ln a) = 59
        · rw [if_pos h2, if_pos ⟨by omega, h2⟩]
        · rw [if_neg h2, if_neg (fun z => h2 z.2)]
  · rw [ce_sign hk.1 (.inr hk.2.1), ce_last (by omega), ← hk.2.2, ← hE]
    by_cases h0 : rnF tx ln (rc1 tx ln a) = 0
    · rw [if_pos h0, if_neg (fun z => by have := hb.mp z; omega), hE, h0, Nat.add_zero]
    · rw [if_neg h0, if_pos (hb.mpr (by omega))]
      by_cases h1 : rcE tx ln a = ln
      · rw [if_pos h1, if_pos h1]
      · rw [if_neg h1, if_neg h1]
        by_cases h2 : tx (rcE tx ln a) = 59
        · rw [if_pos h2, if_pos ⟨by omega, h2⟩]
        · rw [if_neg h2, if_neg (fun z => h2 z.2)]
  · rw [if_neg (fun z => absurd (hb.mp z) (by omega)), ce_first ha (by omega)]
    obtain ⟨k1, k2, k3⟩ := hk
    rw [k2] at k3 hE
    rw [if_pos k3, hE, k3, Nat.add_zero]
  · rw [if_neg (fun z => absurd (hb.mp z) (by omega)), ce_first ha (by omega)]
    obtain ⟨k1, k2, k3, k4, k5⟩ := hk
    rw [k4] at k5 hE
    rw [if_pos k5, hE, k5, Nat.add_zero]
  · obtain ⟨k1, k2, k3, k4, k5, k6, k7⟩ := hk
    rw [ce_first ha (by omega)]
    rw [k4] at k5 hE
    rw [if_neg (by omega), ← hE, if_pos ⟨k6, k7⟩, ce_last (by omega)]
    by_cases h0 : rnF tx ln (rcE tx ln a + 1) = 0
    · rw [if_pos h0, if_neg (fun z => by have := hb.mp z; omega), h0, Nat.add_zero]
    · rw [if_neg h0, if_pos (hb.mpr (by omega))]
      by_cases h1 : rcE tx ln a + 1 + rnF tx ln (rcE tx ln a + 1) = ln
      · rw [if_pos h1, if_pos h1]
      · rw [if_neg h1, if_neg h1]
        by_cases h2 : tx (rcE tx ln a + 1 + rnF tx ln (rcE tx ln a + 1)) = 59
        · rw [if_pos h2, if_pos ⟨by omega, h2⟩]
        · rw [if_neg h2, if_neg (fun z => h2 z.2)]
  · obtain ⟨k1, k2, k3, k4, k5, k6⟩ := hk
    rw [if_neg (fun z => absurd (hb.mp z) (by omega)), ce_first ha (by omega)]
    rw [k4] at k5 hE
    rw [if_neg (by omega), ← hE, if_neg k6]
theorem ac_ce {tx : Nat → Nat} {ln : Nat} : ∀ n p, p.1 ≤ ln → ln + 1 ≤ n + p.1 → (if (acF tx ln n p).1 = true then (-2 : Int) else (((acF tx ln n p).2.1 : Nat) : Int)) = ceF tx ln (ln - p.1) p.1 0 0
  | 0, p, h1, h2 => by omega
  | n + 1, p, h1, h2 => by
    rw [ce_cmd p.2.2.2.2.1 p.2.2.2.2.2 h1]
    unfold acF
    by_cases hb : rcB tx ln p.1
    · have hl := rcP_lt p.2.2.2.2.1 p.2.2.2.2.2 hb
      have hq := rcP_le tx p.2.2.2.2.1 p.2.2.2.2.2 h1
      rw [if_pos hb, if_pos hb]
      by_cases c1 : (rcP tx ln p.1 p.2.2.2.2.1 p.2.2.2.2.2).1 = ln
      · rw [if_pos c1, if_pos c1]; rfl
      · rw [if_neg c1, if_neg c1]
        by_cases c2 : (rcP tx ln p.1 p.2.2.2.2.1 p.2.2.2.2.2).1 < ln ∧ tx (rcP tx ln p.1 p.2.2.2.2.1 p.2.2.2.2.2).1 = 59
        · rw [if_pos c2, if_pos c2]
          exact ac_ce n ((rcP tx ln p.1 p.2.2.2.2.1 p.2.2.2.2.2).1 + 1, (rcP tx ln p.1 p.2.2.2.2.1 p.2.2.2.2.2).2) (by show _ + 1 ≤ ln; omega) (by show ln + 1 ≤ n + (_ + 1); omega)
        · rw [if_neg c2, if_neg c2]; rfl
    · rw [if_neg hb, if_neg hb]; rfl
