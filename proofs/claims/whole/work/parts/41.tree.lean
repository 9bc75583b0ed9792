/-! the tree: depths by hash, and flags by node -/
theorem nd_rg {h d : Nat} (hh : h < 64) (hd : d < 7) : Nat.log2 (ndF h d) = d := by
  have : ∀ h, h < 64 → ∀ d, d < 7 → Nat.log2 (ndF h d) = d := by decide +kernel
  exact this h hh d hd
theorem nd_in {h d j : Nat} (hh : h < 64) (hd : d < 7) (hj : j < 64) : (fhF h d ≤ j ∧ j < lhF h d + 1) ↔ ndF j d = ndF h d := by
  have : ∀ d, d < 7 → ∀ h, h < 64 → ∀ j, j < 64 → ((fhF h d ≤ j ∧ j < lhF h d + 1) ↔ ndF j d = ndF h d) := by decide +kernel
  exact this d hd h hh j hj
theorem nd_half {h d : Nat} (hh : h < 64) (hd : d < 6) : ndF h (d + 1) / 2 = ndF h d := by
  have : ∀ h, h < 64 → ∀ d, d < 6 → ndF h (d + 1) / 2 = ndF h d := by decide +kernel
  exact this h hh d hd
theorem nd_sib {h d : Nat} (hh : h < 64) (hd : d < 7) (h0 : 0 < d) : ndF (sbF h d) d = nsF (ndF h d) ∧ nsF (ndF h d) / 2 = ndF h (d - 1) ∧ sbF h d < 64 := by
  have : ∀ h, h < 64 → ∀ d, d < 7 → 0 < d → ndF (sbF h d) d = nsF (ndF h d) ∧ nsF (ndF h d) / 2 = ndF h (d - 1) ∧ sbF h d < 64 := by decide +kernel
  exact this h hh d hd h0
/-- a node's children -/
theorem nd_two {n m : Nat} (hm : m / 2 = n) (hn : 0 < n) : m = 2 * n ∨ m = 2 * n + 1 := by omega
theorem nd_lv {h j d e : Nat} (hh : h < 64) (hj : j < 64) (hd : d < 7) (he : e < 7) (h9 : ndF j e = ndF h d) : e = d := by
  have := nd_rg hj he
  rw [h9, nd_rg hh hd] at this
  exact this.symm
theorem nd_up {h j : Nat} (hh : h < 64) (hj : j < 64) : ∀ k d, d + k < 7 → ndF j (d + k) = ndF h (d + k) → ndF j d = ndF h d
  | 0, d, _, h9 => h9
  | k + 1, d, hd, h9 => by
    refine nd_up hh hj k d (by omega) ?_
    rw [← nd_half hh (show d + k < 6 by omega), ← nd_half hj (show d + k < 6 by omega)]
    exact congrArg (· / 2) h9
theorem dpF_ge {g : Nat → Int} {h : Nat} : ∀ k d, (∀ e, d ≤ e → e < dpF g h k d → g (8 + ndF h e) = 1) ∧ (dpF g h k d < d + k → g (8 + ndF h (dpF g h k d)) ≠ 1)
  | 0, d => ⟨fun e h1 h2 => absurd (show e < d from h2) (by omega), fun h9 => absurd (show d < d + 0 from h9) (by omega)⟩
  | k + 1, d => by
    obtain ⟨i1, i2⟩ := dpF_ge (g := g) (h := h) k (d + 1)
    unfold dpF
    split
    · rename_i h9
      refine ⟨fun e h1 h2 => ?_, fun h3 => i2 (by omega)⟩
      rcases Nat.eq_or_lt_of_le h1 with h4 | h4
      · rw [← h4]; exact h9
      · exact i1 e (by omega) h2
    · rename_i h9
      exact ⟨fun e h1 h2 => absurd h2 (by omega), fun _ => h9⟩
theorem dpF_eq {g : Nat → Int} {h D : Nat} (hD : D ≤ 6) (h1 : ∀ e, e < D → g (8 + ndF h e) = 1) (h2 : D < 6 → g (8 + ndF h D) ≠ 1) : dpF g h 6 0 = D := by
  obtain ⟨i1, i2⟩ := dpF_ge (g := g) (h := h) 6 0
  have hl := dpF_le g h 6 0
  rcases Nat.lt_trichotomy (dpF g h 6 0) D with h9 | h9 | h9
  · exact absurd (h1 _ h9) (i2 (by omega))
  · exact h9
  · exact absurd (i1 D (by omega) h9) (h2 (by omega))
def TreeR (f : Nat → Nat) (g : Nat → Int) : Prop :=
  (∀ h, h < 64 → f h = dpF g h 6 0) ∧ ∀ n, 1 ≤ n → n < 64 → (g (8 + n) = 0 ∨ g (8 + n) = 1) ∧ (g (8 + n) = 1 → 2 ≤ n → g (8 + n / 2) = 1)
theorem TreeR.cong {f : Nat → Nat} {g g2 : Nat → Int} (h : TreeR f g) (hc : ∀ j, 8 ≤ j → j < 72 → g2 j = g j) : TreeR f g2 := by
  obtain ⟨h1, h2⟩ := h
  refine ⟨fun j hj => ?_, fun n n1 n2 => ?_⟩
  · rw [h1 j hj]
    obtain ⟨i1, i2⟩ := dpF_ge (g := g) (h := j) 6 0
    have hl := dpF_le g j 6 0
    refine (dpF_eq (by omega) (fun e he => ?_) (fun h6 => ?_)).symm
    · have := ndF_lt5 hj (show e < 6 by omega)
      rw [hc _ (by omega) (by omega)]; exact i1 e (by omega) he
    · have := ndF_lt5 hj h6
      rw [hc _ (by omega) (by omega)]; exact i2 (by omega)
  · rw [hc _ (by omega) (by omega)]
    refine ⟨(h2 n n1 n2).1, fun a b => ?_⟩
    rw [hc _ (by omega) (by omega)]
    exact (h2 n n1 n2).2 a b
theorem seF_v (f : Nat → Nat) (a b v j : Nat) : seF f a b v j = if a ≤ j ∧ j < b then v else f j := rfl
/-- a leaf split -/
theorem tree_set {f : Nat → Nat} {g g2 : Nat → Int} {h d : Nat} (hT : TreeR f g) (hh : h < 64) (hd : d < 6) (hf : f h = d) (hg : ∀ n, 1 ≤ n → n < 64 → g2 (8 + n) = if n = ndF h d then 1 else g (8 + n)) : TreeR (seF f (fhF h d) (lhF h d + 1) (d + 1)) g2 := by
  obtain ⟨h1, h2⟩ := hT
  have hp := ndF_pos h d
  have hl5 := ndF_lt5 hh hd
  have hdh := h1 h hh
  rw [hf] at hdh
  obtain ⟨i1, i2⟩ := dpF_ge (g := g) (h := h) 6 0
  rw [← hdh] at i1 i2
  have hz : g (8 + ndF h d) = 0 := (h2 _ hp hl5).1.resolve_right (i2 (by omega))
  refine ⟨fun j hj => ?_, fun n n1 n2 => ?_⟩
  · rw [seF_v]
    split
    · rename_i hr
      have hn := (nd_in hh (by omega) hj).mp hr
      refine (dpF_eq (by omega) (fun e he => ?_) (fun h6 => ?_)).symm
      · rw [hg _ (ndF_pos j e) (ndF_lt5 hj (by omega))]
        rcases Nat.eq_or_lt_of_le (Nat.le_of_lt_succ he) with h9 | h9
        · subst h9; rw [if_pos hn]
        · have hu := nd_up hh hj (d - e) e (by omega) (by rw [show e + (d - e) = d by omega]; exact hn)
          rw [hu]
          split
          · rfl
          · exact i1 e (by omega) h9
      · have hlt := ndF_lt5 hj h6
        have hne : ndF j (d + 1) ≠ ndF h d := fun z => by have := nd_lv hh hj (by omega) (by omega) z; omega
        rw [hg _ (ndF_pos _ _) hlt, if_neg hne]
        intro z
        have h8 := (h2 _ (ndF_pos j (d + 1)) hlt).2 z (ndF_2 (by omega))
        rw [nd_half hj hd, hn, hz] at h8
        exact absurd h8 (by decide)
    · rename_i hr
      have hn : ndF j d ≠ ndF h d := fun z => hr ((nd_in hh (by omega) hj).mpr z)
      rw [h1 j hj]
      obtain ⟨k1, k2⟩ := dpF_ge (g := g) (h := j) 6 0
      have hl := dpF_le g j 6 0
      have hne : ∀ e, e < 6 → ndF j e ≠ ndF h d := fun e he z => by
        have := nd_lv hh hj (by omega) (by omega) z
        subst this
        exact hn z
      refine (dpF_eq (by omega) (fun e he => ?_) (fun h6 => ?_)).symm
      · rw [hg _ (ndF_pos j e) (ndF_lt5 hj (by omega)), if_neg (hne e (by omega))]; exact k1 e (by omega) he
      · rw [hg _ (ndF_pos j _) (ndF_lt5 hj h6), if_neg (hne _ h6)]; exact k2 (by omega)
  · rw [hg n n1 n2]
    refine ⟨?_, fun a b => ?_⟩
    · split
      · exact .inr rfl
      · exact (h2 n n1 n2).1
    · rw [hg _ (by omega) (by omega)]
      split
      · rfl
      · rename_i h9
        split at a
        · rename_i h8
          rcases Nat.eq_zero_or_pos d with h0 | h0
          · subst h0; rw [ndF_0 hh] at h8; omega
          · have := nd_half hh (show d - 1 < 6 by omega)
            rw [show d - 1 + 1 = d by omega] at this
            rw [h8, this]
            exact i1 _ (by omega) (by omega)
        · exact (h2 n n1 n2).2 a b
/-- two leaves merged -/
theorem tree_clr {f : Nat → Nat} {g g2 : Nat → Int} {h d : Nat} (hT : TreeR f g) (hh : h < 64) (hd : d < 6) (hf : f h = d + 1) (hs : d + 1 = 6 ∨ g (8 + nsF (ndF h (d + 1))) = 0) (hg : ∀ n, 1 ≤ n → n < 64 → g2 (8 + n) = if n = ndF h d then 0 else g (8 + n)) : TreeR (seF f (fhF h d) (lhF h d + 1) d) g2 := by
  obtain ⟨h1, h2⟩ := hT
  have hp := ndF_pos h d
  have hl5 := ndF_lt5 hh hd
  have hdh := h1 h hh
  rw [hf] at hdh
  obtain ⟨i1, i2⟩ := dpF_ge (g := g) (h := h) 6 0
  rw [← hdh] at i1 i2
  refine ⟨fun j hj => ?_, fun n n1 n2 => ?_⟩
  · rw [seF_v]
    split
    · rename_i hr
      have hn := (nd_in hh (by omega) hj).mp hr
      refine (dpF_eq (by omega) (fun e he => ?_) (fun h6 => ?_)).symm
      · have hu := nd_up hh hj (d - e) e (by omega) (by rw [show e + (d - e) = d by omega]; exact hn)
        rw [hg _ (ndF_pos j e) (ndF_lt5 hj (by omega)), hu, if_neg (fun z => by have := nd_lv hh hh (by omega) (by omega) z; omega)]
        exact i1 e (by omega) (by omega)
      · rw [hg _ (ndF_pos _ _) (ndF_lt5 hj hd), if_pos hn]; decide
    · rename_i hr
      have hn : ndF j d ≠ ndF h d := fun z => hr ((nd_in hh (by omega) hj).mpr z)
      rw [h1 j hj]
      obtain ⟨k1, k2⟩ := dpF_ge (g := g) (h := j) 6 0
      have hl := dpF_le g j 6 0
      have hne : ∀ e, e < 6 → ndF j e ≠ ndF h d := fun e he z => by
        have := nd_lv hh hj (by omega) (by omega) z
        subst this
        exact hn z
      refine (dpF_eq (by omega) (fun e he => ?_) (fun h6 => ?_)).symm
      · rw [hg _ (ndF_pos j e) (ndF_lt5 hj (by omega)), if_neg (hne e (by omega))]; exact k1 e (by omega) he
      · rw [hg _ (ndF_pos j _) (ndF_lt5 hj h6), if_neg (hne _ h6)]; exact k2 (by omega)
  · rw [hg n n1 n2]
    refine ⟨?_, fun a b => ?_⟩
    · split
      · exact .inl rfl
      · exact (h2 n n1 n2).1
    · split at a
      · exact absurd a (by decide)
      · rename_i h9
        rw [hg _ (by omega) (by omega)]
        split
        · rename_i h8
          -- a child of the cleared node has no flag
          exfalso
          have hd5 : d + 1 < 6 := by
            rcases Nat.lt_or_ge (d + 1) 6 with z | z
            · exact z
            · have h5 : d = 5 := by omega
              subst h5
              have h7 := nd_rg hh (show 5 < 7 by omega)
              have h32 : 32 ≤ ndF h 5 := by
                have : ∀ h, h < 64 → 32 ≤ ndF h 5 := by decide +kernel
                exact this h hh
              omega
          have hA := nd_half hh hd
          have hS := nd_sib hh (show d + 1 < 7 by omega) (by omega)
          rw [show d + 1 - 1 = d by omega] at hS
          have hs0 : g (8 + nsF (ndF h (d + 1))) = 0 := hs.resolve_left (by omega)
          have hA0 := i2 (by omega)
          have hne : nsF (ndF h (d + 1)) ≠ ndF h (d + 1) := by unfold nsF; split <;> omega
          have : n = ndF h (d + 1) ∨ n = nsF (ndF h (d + 1)) := by omega
          rcases this with z | z
          · rw [z] at a; exact hA0 a
          · rw [z] at a; rw [hs0] at a; exact absurd a (by decide)
        · exact (h2 n n1 n2).2 a b
/-- the sibling is a leaf as deep -/
theorem tree_sib {f : Nat → Nat} {g : Nat → Int} {h d : Nat} (hT : TreeR f g) (hh : h < 64) (hd : d < 6) (hf : f h = d + 1) : f (sbF h (d + 1)) = d + 1 ↔ (d + 1 = 6 ∨ g (8 + nsF (ndF h (d + 1))) = 0) := by
  obtain ⟨h1, h2⟩ := hT
  have hdh := h1 h hh
  rw [hf] at hdh
  obtain ⟨i1, i2⟩ := dpF_ge (g := g) (h := h) 6 0
  rw [← hdh] at i1 i2
  obtain ⟨s1, s2, s3⟩ := nd_sib hh (show d + 1 < 7 by omega) (by omega)
  rw [show d + 1 - 1 = d by omega] at s2
  have hup : ndF (sbF h (d + 1)) d = ndF h d := by rw [← nd_half s3 hd, s1, s2]
  rw [h1 _ s3]
  obtain ⟨k1, k2⟩ := dpF_ge (g := g) (h := sbF h (d + 1)) 6 0
  constructor
  · intro z
    rw [z] at k1 k2
    rcases Nat.lt_or_ge (d + 1) 6 with h6 | h6
    · right
      have := k2 (by omega)
      rw [s1] at this
      have hlt := ndF_lt5 s3 h6
      rw [s1] at hlt
      have hpos := ndF_pos (sbF h (d + 1)) (d + 1)
      rw [s1] at hpos
      exact (h2 _ hpos hlt).1.resolve_right this
    · left; omega
  · intro z
    refine dpF_eq (by omega) (fun e he => ?_) (fun h6 => ?_)
    · have hu := nd_up hh s3 (d - e) e (by omega) (by rw [show e + (d - e) = d by omega]; exact hup)
      rw [hu]
      exact i1 e (by omega) he
    · rw [s1, z.resolve_left (by omega)]; decide
/-- the number of leaves -/
def csF (w a b : Nat) : Nat → Nat
  | 0 => 0
  | n + 1 => csF w a b n + if (a ≤ n ∧ n < b) ∧ fhF n w = n then 1 else 0
theorem lcF_se (f : Nat → Nat) (a b u v : Nat) (hf : ∀ j, a ≤ j → j < b → f j = u) : ∀ n, lcF (seF f a b v) n + csF u a b n = lcF f n + csF v a b n
  | 0 => rfl
  | n + 1 => by
    have ih := lcF_se f a b u v hf n
    show lcF (seF f a b v) n + (if fhF n (seF f a b v n) = n then 1 else 0) + (csF u a b n + if (a ≤ n ∧ n < b) ∧ fhF n u = n then 1 else 0) = lcF f n + (if fhF n (f n) = n then 1 else 0) + (csF v a b n + if (a ≤ n ∧ n < b) ∧ fhF n v = n then 1 else 0)
    rw [seF_v]
    by_cases h : a ≤ n ∧ n < b
    · rw [if_pos h, hf n h.1 h.2]
      simp only [h, and_self, true_and]
      omega
    · rw [if_neg h]
      simp only [h, false_and, if_false]
      omega
theorem csF_d {h d : Nat} (hh : h < 64) (hd : d < 6) : csF d (fhF h d) (lhF h d + 1) 64 = 1 ∧ csF (d + 1) (fhF h d) (lhF h d + 1) 64 = 2 := by
  have : ∀ h, h < 64 → ∀ d, d < 6 → csF d (fhF h d) (lhF h d + 1) 64 = 1 ∧ csF (d + 1) (fhF h d) (lhF h d + 1) 64 = 2 := by decide +kernel
  exact this h hh d hd
/-- the hashes of a leaf have its depth -/
theorem tree_leaf {f : Nat → Nat} {g : Nat → Int} {h d : Nat} (hT : TreeR f g) (hh : h < 64) (hd : d < 7) (hf : f h = d) : ∀ j, j < 64 → fhF h d ≤ j → j < lhF h d + 1 → f j = d := by
  intro j hj a b
  obtain ⟨h1, h2⟩ := hT
  have hn := (nd_in hh hd hj).mp ⟨a, b⟩
  have hdh := h1 h hh
  rw [hf] at hdh
  obtain ⟨i1, i2⟩ := dpF_ge (g := g) (h := h) 6 0
  rw [← hdh] at i1 i2
  rw [h1 j hj]
  refine dpF_eq (by omega) (fun e he => ?_) (fun h6 => ?_)
  · have hu := nd_up hh hj (d - e) e (by omega) (by rw [show e + (d - e) = d by omega]; exact hn)
    rw [hu]
    exact i1 e (by omega) he
  · rw [hn]; exact i2 (by omega)
theorem lc_split {f : Nat → Nat} {g : Nat → Int} {h d : Nat} (hT : TreeR f g) (hh : h < 64) (hd : d < 6) (hf : f h = d) : lcF (seF f (fhF h d) (lhF h d + 1) (d + 1)) 64 = lcF f 64 + 1 := by
  have hr := fh_le hh (show d < 7 by omega)
  have h1 := lcF_se f (fhF h d) (lhF h d + 1) d (d + 1) (fun j a b => tree_leaf hT hh (by omega) hf j (by omega) a b) 64
  have h2 := csF_d hh hd
  omega
theorem lc_merge {f : Nat → Nat} {g : Nat → Int} {h d : Nat} (hT : TreeR f g) (hh : h < 64) (hd : d < 6) (hf : f h = d + 1) (hs : f (sbF h (d + 1)) = d + 1) : lcF (seF f (fhF h d) (lhF h d + 1) d) 64 + 1 = lcF f 64 := by
  have hr := fh_le hh (show d < 7 by omega)
  obtain ⟨s1, s2, s3⟩ := nd_sib hh (show d + 1 < 7 by omega) (by omega)
  have h1 := lcF_se f (fhF h d) (lhF h d + 1) (d + 1) d (fun j a b => ?_) 64
  · have h2 := csF_d hh hd
    omega
  · have hj : j < 64 := by omega
    have hn := (nd_in hh (show d < 7 by omega) hj).mp ⟨a, b⟩
    -- in the half of h or in its sibling's
    have e1 := nd_half hj hd
    have e2 := nd_half hh hd
    rw [show d + 1 - 1 = d by omega] at s2
    have hne : nsF (ndF h (d + 1)) ≠ ndF h (d + 1) := by unfold nsF; split <;> omega
    have hp := ndF_pos h (d + 1)
    rcases (show ndF j (d + 1) = ndF h (d + 1) ∨ ndF j (d + 1) = nsF (ndF h (d + 1)) by rw [hn] at e1; omega) with z | z
    · have := (nd_in hh (show d + 1 < 7 by omega) hj).mpr z
      exact tree_leaf hT hh (by omega) hf j hj this.1 this.2
    · rw [← s1] at z
      have := (nd_in s3 (show d + 1 < 7 by omega) hj).mpr z
      exact tree_leaf hT s3 (by omega) hs j hj this.1 this.2
