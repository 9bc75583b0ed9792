/-! the commands of a text run, in both -/
theorem rcP_j (tx : Nat → Nat) (ln a f2 l2 f3 l3 : Nat) : (rcP tx ln a f2 l2).1 = (rcP tx ln a f3 l3).1 := by
  unfold rcP
  split
  · rfl
  · split <;> rfl
theorem nbF_pk {tx : Nat → Nat} {a m : Nat} (hm : m ≤ 6) (h : ∀ j, j < m → 97 ≤ tx (a + j) ∧ tx (a + j) ≤ 122) : nbF tx a (a + m) = pkF tx a m := by
  unfold nbF
  rw [show a + m - a = m by omega, if_pos ⟨hm, h⟩]
theorem cm_rel {tx : Nat → Nat} {ln a : Nat} (f2 l2 : Nat) (ha : a ≤ ln) (hl : ln ≤ 80) (hb9 : rcB tx ln a) :
    CmR tx a (rcP tx ln a f2 l2).1 (rcP tx ln a f2 l2).2.1 (rcP tx ln a f2 l2).2.2.1 (rcP tx ln a f2 l2).2.2.2.1 (rcP tx ln a f2 l2).2.2.2.2.1 (rcP tx ln a f2 l2).2.2.2.2.2 ∧ ∀ j, a ≤ j → j < (rcP tx ln a f2 l2).1 → tx j ≠ 59 := by
  have hq := rcP_le tx f2 l2 ha
  have hE : rcE tx ln a = rc1 tx ln a + rnF tx ln (rc1 tx ln a) := rfl
  have hEl := rcE_le tx ha
  have hin := fun j => rnF_in (tx := tx) (ln := ln) (a := rc1 tx ln a) (j := j)
  have h6 := rnF_le tx ln (rc1 tx ln a)
  have hpos := hb9.1
  rcases rcX tx ln a f2 l2 with ⟨hk, hw, hb⟩ | ⟨hk, hw, hb⟩ | ⟨hk, hw, hb⟩ | ⟨hk, hw, hb⟩ | ⟨hk, hw, hb⟩ | ⟨hk, hw, hb⟩ <;> rw [hw] at hq ⊢ <;> dsimp only at hq ⊢
  · obtain ⟨k1, k2, k3⟩ := hk
    rw [k3] at hE hin h6 hpos ⊢
    clear hb hb9 hw
    refine ⟨⟨⟨hpos, h6, by omega, fun j hj => (hin j hj).2⟩, .inl ⟨by omega, k2, ?_⟩⟩, fun j j1 j2 => ?_⟩
    · rw [hE]; exact nbF_pk h6 (fun j hj => (hin j hj).2)
    · rcases Nat.eq_or_lt_of_le j1 with z | z
      · rw [← z, k2]; decide
      · have := hin (j - (a + 1)) (by omega)
        rw [show a + 1 + (j - (a + 1)) = j by omega] at this
        omega
  · obtain ⟨k1, k2, k3⟩ := hk
    rw [k3] at hE hin h6 hpos ⊢
    clear hb hb9 hw
    refine ⟨⟨⟨hpos, h6, by omega, fun j hj => (hin j hj).2⟩, .inr (.inl ⟨by omega, k2, ?_⟩)⟩, fun j j1 j2 => ?_⟩
    · rw [hE]; exact nbF_pk h6 (fun j hj => (hin j hj).2)
    · rcases Nat.eq_or_lt_of_le j1 with z | z
      · rw [← z, k2]; decide
      · have := hin (j - (a + 1)) (by omega)
        rw [show a + 1 + (j - (a + 1)) = j by omega] at this
        omega
  · exact absurd (hb.mp hb9) (by omega)
  · exact absurd (hb.mp hb9) (by omega)
  · obtain ⟨k1, k2, k3, k4, k5, k6, k7⟩ := hk
    rw [k4] at hE hin h6 hpos ⊢
    have h2 := hb.mp hb9
    clear hb hb9 hw
    have hin2 := fun j => rnF_in (tx := tx) (ln := ln) (a := rcE tx ln a + 1) (j := j)
    have h62 := rnF_le tx ln (rcE tx ln a + 1)
    have hio : ioF tx 61 a (rcE tx ln a + 1 + rnF tx ln (rcE tx ln a + 1)) = rcE tx ln a := by
      refine ioF_eq (by omega) (by omega) (fun j hj => decide_eq_false ?_) (fun _ => k7)
      have := hin j (by omega)
      omega
    refine ⟨⟨⟨hpos, h6, by omega, fun j hj => (hin j hj).2⟩, .inr (.inr ⟨rfl, k2, k3, ?_, ?_, h2, h62, by omega, fun j hj => (hin2 j hj).2⟩)⟩, fun j j1 j2 => ?_⟩
    · rw [hio, hE]; exact nbF_pk h6 (fun j hj => (hin j hj).2)
    · rw [hio]; exact nbF_pk h62 (fun j hj => (hin2 j hj).2)
    · rcases Nat.lt_or_ge j (rcE tx ln a) with z | z
      · have := hin (j - a) (by omega)
        rw [show a + (j - a) = j by omega] at this
        omega
      · rcases Nat.eq_or_lt_of_le z with y | y
        · rw [← y, k7]; decide
        · have := hin2 (j - (rcE tx ln a + 1)) (by omega)
          rw [show rcE tx ln a + 1 + (j - (rcE tx ln a + 1)) = j by omega] at this
          omega
  · exact absurd (hb.mp hb9) (by omega)
theorem rcB_end (tx : Nat → Nat) (ln : Nat) : ¬ rcB tx ln ln := by
  intro h
  have h1 := h.1
  have hr : rc1 tx ln ln = ln := if_neg (by omega)
  rw [hr] at h1
  have := (rnF_in h1).1
  omega
theorem rt_scan {tx : Nat → Nat} {ln fr ex : Nat} {s : StV} : ∀ k to, to + k ≤ ln → (∀ j, to ≤ j → j < to + k → tx j ≠ 59) → rtF tx ln (ln + 1 - to) to fr ex s = rtF tx ln (ln + 1 - (to + k)) (to + k) fr ex s
  | 0, to, _, _ => rfl
  | k + 1, to, h1, h2 => by
    rw [rtF_skip (by omega) (fun z => by have := h2 to (by omega) (by omega); omega), rt_scan k (to + 1) (by omega) (fun j a b => h2 j (by omega) (by omega)), show to + 1 + k = to + (k + 1) by omega]
def VaF (tx : Nat → Nat) (ln i : Nat) : Prop := ∃ (n : Nat) (p : PsV), p.1 = i ∧ (acF tx ln n p).1 = true
theorem VaF_cmd {tx : Nat → Nat} {ln i : Nat} (f2 l2 : Nat) (h : VaF tx ln i) : rcB tx ln i ∧ ((rcP tx ln i f2 l2).1 = ln ∨ ((rcP tx ln i f2 l2).1 < ln ∧ tx (rcP tx ln i f2 l2).1 = 59 ∧ VaF tx ln ((rcP tx ln i f2 l2).1 + 1))) := by
  obtain ⟨n, p, rfl, h⟩ := h
  cases n with
  | zero => exact absurd h Bool.false_ne_true
  | succ n =>
    unfold acF at h
    by_cases hb : rcB tx ln p.1
    · rw [if_pos hb] at h
      refine ⟨hb, ?_⟩
      rw [rcP_j tx ln p.1 f2 l2 p.2.2.2.2.1 p.2.2.2.2.2]
      by_cases c1 : (rcP tx ln p.1 p.2.2.2.2.1 p.2.2.2.2.2).1 = ln
      · exact .inl c1
      · rw [if_neg c1] at h
        by_cases c2 : (rcP tx ln p.1 p.2.2.2.2.1 p.2.2.2.2.2).1 < ln ∧ tx (rcP tx ln p.1 p.2.2.2.2.1 p.2.2.2.2.2).1 = 59
        · rw [if_pos c2] at h
          exact .inr ⟨c2.1, c2.2, n, _, rfl, h⟩
        · rw [if_neg c2] at h
          exact absurd h Bool.false_ne_true
    · rw [if_neg hb] at h
      exact absurd h Bool.false_ne_true
theorem run_both {tx : Nat → Nat} {ln : Nat} (ht : ∀ j, j < 80 → tx j < 128) (hln : ln ≤ 80) : ∀ (n : Nat) (p : PsV) (ex : Nat) (s : StV) (g : Nat → Int), p.1 ≤ ln → ln + 1 ≤ n + p.1 → VaF tx ln p.1 → Sim s g →
    (rtF tx ln (ln + 1 - p.1) p.1 p.1 ex s).1 = (mxF tx ln n ex g p).1 ∧ Sim (rtF tx ln (ln + 1 - p.1) p.1 p.1 ex s).2 (mxF tx ln n ex g p).2.1
  | 0, p, ex, s, g, h1, h2, _, _ => by omega
  | n + 1, p, ex, s, g, h1, h2, hv, hs => by
    obtain ⟨hb, he⟩ := VaF_cmd p.2.2.2.2.1 p.2.2.2.2.2 hv
    obtain ⟨hr, hno⟩ := cm_rel p.2.2.2.2.1 p.2.2.2.2.2 h1 hln hb
    have hlt := rcP_lt p.2.2.2.2.1 p.2.2.2.2.2 hb
    have hle := rcP_le tx p.2.2.2.2.1 p.2.2.2.2.2 h1
    have hcn : (g 0).toNat = s.2.2.2.2.1 := by rw [hs.1.1]; rfl
    have hsc := rt_scan (tx := tx) (ln := ln) (fr := p.1) (ex := ex) (s := s) ((rcP tx ln p.1 p.2.2.2.2.1 p.2.2.2.2.2).1 - p.1) p.1 (by clear hb; omega) (fun j a b => hno j a (by clear hb; omega))
    rw [show p.1 + ((rcP tx ln p.1 p.2.2.2.2.1 p.2.2.2.2.2).1 - p.1) = (rcP tx ln p.1 p.2.2.2.2.1 p.2.2.2.2.2).1 by clear hb; omega] at hsc
    rw [hsc]
    have hend : ln ≤ (rcP tx ln p.1 p.2.2.2.2.1 p.2.2.2.2.2).1 ∨ tx (rcP tx ln p.1 p.2.2.2.2.1 p.2.2.2.2.2).1 = 59 := by clear hb; omega
    rcases sim_cm hs ht hr with ⟨c1, c2⟩ | ⟨s9, g9, c1, c2, c3⟩
    · rw [← hcn] at c2
      rw [mxF_e2 (Nat.succ_pos n) hb c2, ← rtF_stop hle hend c1 rfl]
      exact ⟨rfl, hs⟩
    · rw [← hcn] at c2
      rw [rtF_cmd hle hend c1]
      rcases he with he | ⟨e1, e2, e3⟩
      · have q1 := mxF_next (ex := ex) (n := n + 1) (v := ln) (Nat.succ_pos n) hb c2 (by rw [if_neg (by clear hb; omega)]; exact he)
        have q2 := mxF_e1 (tx := tx) (ln := ln) (n := n) (ex := ex + 1) (g := g9) (p := (ln, (rcP tx ln p.1 p.2.2.2.2.1 p.2.2.2.2.2).2)) (by clear hb; omega) (rcB_end tx ln)
        rw [q1, Nat.add_sub_cancel, q2, he, Nat.sub_self]
        exact ⟨rfl, c3⟩
      · have q1 := mxF_next (ex := ex) (n := n + 1) (v := (rcP tx ln p.1 p.2.2.2.2.1 p.2.2.2.2.2).1 + 1) (Nat.succ_pos n) hb c2 (if_pos ⟨e1, e2⟩)
        rw [q1, Nat.add_sub_cancel]
        exact run_both ht hln n ((rcP tx ln p.1 p.2.2.2.2.1 p.2.2.2.2.2).1 + 1, (rcP tx ln p.1 p.2.2.2.2.1 p.2.2.2.2.2).2) (ex + 1) s9 g9 (by clear hb; show _ + 1 ≤ ln; omega) (by clear hb; show ln + 1 ≤ n + (_ + 1); omega) e3 c3
