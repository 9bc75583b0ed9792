/-! the tree by the depths of its leaves alone: hashes of one leaf have one depth -/
theorem seF_v (f : Nat → Nat) (a b v j : Nat) : seF f a b v j = if a ≤ j ∧ j < b then v else f j := rfl
theorem inF_v (f : Nat → Nat) (p n x j : Nat) : inF f p n x j = if j = p then x else if p < j ∧ j ≤ n then f (j - 1) else f j := rfl
theorem shL_v (f : Nat → Nat) (p n j : Nat) : shL f p n j = if p ≤ j ∧ j < n then f (j + 1) else f j := rfl
theorem bl_in {h d j : Nat} (hh : h < 64) (hd : d < 7) (hj : j < 64) : (fhF h d ≤ j ∧ j < lhF h d + 1) ↔ fhF j d = fhF h d := by
  have : ∀ d, d < 7 → ∀ h, h < 64 → ∀ j, j < 64 → ((fhF h d ≤ j ∧ j < lhF h d + 1) ↔ fhF j d = fhF h d) := by decide +kernel
  exact this d hd h hh j hj
theorem bl_up {h d j : Nat} (hh : h < 64) (hd : d < 6) (hj : j < 64) : fhF j (d + 1) = fhF h (d + 1) → fhF j d = fhF h d := by
  have : ∀ d, d < 6 → ∀ h, h < 64 → ∀ j, j < 64 → (fhF j (d + 1) = fhF h (d + 1) → fhF j d = fhF h d) := by decide +kernel
  exact this d hd h hh j hj
theorem bl_id {h d : Nat} (hh : h < 64) (hd : d < 7) : fhF (fhF h d) d = fhF h d := by
  have : ∀ d, d < 7 → ∀ h, h < 64 → fhF (fhF h d) d = fhF h d := by decide +kernel
  exact this d hd h hh
theorem bl_two {h d j : Nat} (hh : h < 64) (hd : d < 6) (hj : j < 64) : fhF j d = fhF h d → fhF j (d + 1) = fhF h (d + 1) ∨ fhF j (d + 1) = fhF (sbF h (d + 1)) (d + 1) := by
  have : ∀ d, d < 6 → ∀ h, h < 64 → ∀ j, j < 64 → (fhF j d = fhF h d → fhF j (d + 1) = fhF h (d + 1) ∨ fhF j (d + 1) = fhF (sbF h (d + 1)) (d + 1)) := by decide +kernel
  exact this d hd h hh j hj
theorem bl_sb {h d : Nat} (hh : h < 64) (hd : d < 6) : sbF h (d + 1) < 64 ∧ fhF (sbF h (d + 1)) d = fhF h d ∧ fhF h (d + 1) ≠ fhF (sbF h (d + 1)) (d + 1) := by
  have : ∀ d, d < 6 → ∀ h, h < 64 → sbF h (d + 1) < 64 ∧ fhF (sbF h (d + 1)) d = fhF h d ∧ fhF h (d + 1) ≠ fhF (sbF h (d + 1)) (d + 1) := by decide +kernel
  exact this d hd h hh
theorem bl_6 {h j : Nat} (hh : h < 64) (hj : j < 64) : fhF j 6 = fhF h 6 → j = h := by
  have : ∀ h, h < 64 → ∀ j, j < 64 → fhF j 6 = fhF h 6 → j = h := by decide +kernel
  exact this h hh j hj
def TD (f : Nat → Nat) : Prop := ∀ h, h < 64 → f h < 7 ∧ ∀ j, j < 64 → fhF j (f h) = fhF h (f h) → f j = f h
theorem TD_0 : TD (fun _ => 0) := fun _ _ => ⟨(show (0 : Nat) < 7 by decide), fun _ _ _ => rfl⟩
theorem TD_leaf {f : Nat → Nat} {h d : Nat} (hT : TD f) (hh : h < 64) (hf : f h = d) : ∀ j, j < 64 → fhF j d = fhF h d → f j = d := by
  intro j hj e
  subst hf
  exact (hT h hh).2 j hj e
theorem TD_split {f : Nat → Nat} {h d : Nat} (hT : TD f) (hh : h < 64) (hd : d < 6) (hf : f h = d) : TD (seF f (fhF h d) (lhF h d + 1) (d + 1)) := by
  intro x hx
  rw [seF_v]
  by_cases c : fhF h d ≤ x ∧ x < lhF h d + 1
  · rw [if_pos c]
    have hb := (bl_in hh (by omega) hx).mp c
    refine ⟨by omega, fun j hj e => ?_⟩
    have h1 := bl_up hx hd hj e
    rw [seF_v, if_pos ((bl_in hh (by omega) hj).mpr (h1.trans hb))]
  · rw [if_neg c]
    obtain ⟨h1, h2⟩ := hT x hx
    refine ⟨h1, fun j hj e => ?_⟩
    rw [seF_v]
    by_cases cj : fhF h d ≤ j ∧ j < lhF h d + 1
    · exfalso
      have hb := (bl_in hh (by omega) hj).mp cj
      have h3 := TD_leaf hT hh hf j hj hb
      have h4 := h2 j hj e
      rw [← h4, h3] at e
      exact c ((bl_in hh (by omega) hx).mpr (e.symm.trans hb))
    · rw [if_neg cj]; exact h2 j hj e
theorem TD_both {f : Nat → Nat} {h d : Nat} (hT : TD f) (hh : h < 64) (hd : d < 6) (hf : f h = d + 1) (hs : f (sbF h (d + 1)) = d + 1) : ∀ j, j < 64 → fhF j d = fhF h d → f j = d + 1 := by
  intro j hj e
  rcases bl_two hh hd hj e with z | z
  · exact TD_leaf hT hh hf j hj z
  · exact TD_leaf hT (bl_sb hh hd).1 hs j hj z
theorem TD_merge {f : Nat → Nat} {h d : Nat} (hT : TD f) (hh : h < 64) (hd : d < 6) (hf : f h = d + 1) (hs : f (sbF h (d + 1)) = d + 1) : TD (seF f (fhF h d) (lhF h d + 1) d) := by
  have hA := TD_both hT hh hd hf hs
  intro x hx
  rw [seF_v]
  by_cases c : fhF h d ≤ x ∧ x < lhF h d + 1
  · rw [if_pos c]
    have hb := (bl_in hh (by omega) hx).mp c
    refine ⟨by omega, fun j hj e => ?_⟩
    rw [seF_v, if_pos ((bl_in hh (by omega) hj).mpr (e.trans hb))]
  · rw [if_neg c]
    obtain ⟨h1, h2⟩ := hT x hx
    refine ⟨h1, fun j hj e => ?_⟩
    rw [seF_v]
    by_cases cj : fhF h d ≤ j ∧ j < lhF h d + 1
    · exfalso
      have hb := (bl_in hh (by omega) hj).mp cj
      have h3 := hA j hj hb
      have h4 := h2 j hj e
      rw [← h4, h3] at e
      exact c ((bl_in hh (by omega) hx).mpr ((bl_up hx hd hj e).symm.trans hb))
    · rw [if_neg cj]; exact h2 j hj e
/-- the number of leaves -/
def csF (w a b : Nat) : Nat → Nat
  | 0 => 0
  | n + 1 => csF w a b n + if (a ≤ n ∧ n < b) ∧ fhF n w = n then 1 else 0
theorem lcF_se (f : Nat → Nat) (a b u v : Nat) (hf : ∀ j, a ≤ j → j < b → f j = u) : ∀ n, lcF (seF f a b v) n + csF u a b n = lcF f n + csF v a b n
  | 0 => rfl
  | n + 1 => by
    have ih := lcF_se f a b u v hf n
    show lcF (seF f a b v) n + (if fhF n (seF f a b v n) = n then 1 else 0) + (csF u a b n + if (a ≤ n ∧ n < b) ∧ fhF n u = n then 1 else 0) = lcF f n + (if fhF n (f n) = n then 1 else 0) + (csF v a b n + if (a ≤ n ∧ n < b) ∧ fhF n v = n then 1 else 0)
    rw [seF_v]
    by_cases h : a ≤ n ∧ n < b
    · rw [if_pos h, hf n h.1 h.2]
      simp only [h, and_self, true_and]
      omega
    · rw [if_neg h]
      simp only [h, false_and, if_false]
      omega
theorem csF_d {h d : Nat} (hh : h < 64) (hd : d < 6) : csF d (fhF h d) (lhF h d + 1) 64 = 1 ∧ csF (d + 1) (fhF h d) (lhF h d + 1) 64 = 2 := by
  have : ∀ h, h < 64 → ∀ d, d < 6 → csF d (fhF h d) (lhF h d + 1) 64 = 1 ∧ csF (d + 1) (fhF h d) (lhF h d + 1) 64 = 2 := by decide +kernel
  exact this h hh d hd
theorem lc_split {f : Nat → Nat} {h d : Nat} (hT : TD f) (hh : h < 64) (hd : d < 6) (hf : f h = d) : lcF (seF f (fhF h d) (lhF h d + 1) (d + 1)) 64 = lcF f 64 + 1 := by
  have hr := fh_le hh (show d < 7 by omega)
  have h1 := lcF_se f (fhF h d) (lhF h d + 1) d (d + 1) (fun j a b => TD_leaf hT hh hf j (by omega) ((bl_in hh (by omega) (by omega)).mp ⟨a, b⟩)) 64
  have h2 := csF_d hh hd
  omega
theorem lc_merge {f : Nat → Nat} {h d : Nat} (hT : TD f) (hh : h < 64) (hd : d < 6) (hf : f h = d + 1) (hs : f (sbF h (d + 1)) = d + 1) : lcF (seF f (fhF h d) (lhF h d + 1) d) 64 + 1 = lcF f 64 := by
  have hr := fh_le hh (show d < 7 by omega)
  have h1 := lcF_se f (fhF h d) (lhF h d + 1) (d + 1) d (fun j a b => TD_both hT hh hd hf hs j (by omega) ((bl_in hh (by omega) (by omega)).mp ⟨a, b⟩)) 64
  have h2 := csF_d hh hd
  omega
theorem lc_0 : lcF (fun _ => 0) 64 = 1 := by decide +kernel
