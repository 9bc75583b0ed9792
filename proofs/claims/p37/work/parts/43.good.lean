/-! states as they come: what holds of each, and how adding and removing keep it -/
/-- places of the tuple: keys, names, depths, positions, count, splits, merges, ids given -/
def Gd (s : StV) : Prop :=
  (okS s ∧ ∀ j, j < 4 → -2 ≤ s.2.2.2.1 j ∧ s.2.2.2.1 j < 64000) ∧
  (srtF s.1 s.2.2.2.2.1 ∧ (∀ j, j < s.2.2.2.2.1 → s.1 j % 1000 < s.2.2.2.2.2.2.2) ∧ (∀ i j, i < s.2.2.2.2.1 → j < s.2.2.2.2.1 → s.1 i % 1000 = s.1 j % 1000 → i = j) ∧ ∀ j, j < s.2.2.2.2.1 → ltF (s.2.1 j) 0 ≠ 0) ∧
  (TD s.2.2.1 ∧ lcF s.2.2.1 64 + s.2.2.2.2.2.2.1 = 1 + s.2.2.2.2.2.1 ∧ LfS s.1 s.2.2.2.2.1 s.2.2.1)
theorem Gd_0 (p : Nat → Int) (hp : ∀ j, j < 4 → -2 ≤ p j ∧ p j < 64000) : Gd (fun _ => 0, fun _ => 0, fun _ => 0, p, 0, 0, 0, 0) := by
  have h1 : okS (fun _ => 0, fun _ => 0, fun _ => 0, p, 0, 0, 0, 0) := ⟨Nat.zero_le _, fun _ _ => (show (0 : Nat) < 64000 by decide), fun _ _ => (show (0 : Nat) < 1073741824 by decide), fun _ _ => (show (0 : Nat) < 7 by decide), (show (0 : Nat) < 2000 by decide)⟩
  refine ⟨⟨h1, hp⟩, ⟨fun i j _ h => absurd h (Nat.not_lt_zero j), fun j h => absurd h (Nat.not_lt_zero j), fun i j h => absurd h (Nat.not_lt_zero i), fun j h => absurd h (Nat.not_lt_zero j)⟩, TD_0, ?_, fun h _ _ => ?_⟩
  · show lcF (fun _ => 0) 64 + 0 = 1 + 0
    rw [lc_0]
  · show suF _ _ 0 ≤ 4
    exact Nat.zero_le 4
/-- another position -/
theorem Gd_pos {s : StV} (h : Gd s) {p : Nat → Int} (hp : ∀ j, j < 4 → -2 ≤ p j ∧ p j < 64000) : Gd (s.1, s.2.1, s.2.2.1, p, s.2.2.2.2) := ⟨⟨h.1.1, hp⟩, h.2⟩
theorem Gd_mk {nm : Nat} {s : StV} (h : Gd s) (hc : s.2.2.2.2.1 < 40) (hi : s.2.2.2.2.2.2.2 < 1000) (hm : nm < 1073741824) (hl : ltF nm 0 ≠ 0) : Gd (mkS nm s) ∧ (mkS nm s).2.2.2.2.2.1 ≤ s.2.2.2.2.2.1 + 6 := by
  obtain ⟨⟨ho, hp⟩, ⟨hS, hI, hU, hN⟩, hT, hL, hQ⟩ := h
  have ho2 := okS_mk ho hc hi hm
  obtain ⟨K, N, dep, pos, cnt, sc, mg, ids⟩ := s
  dsimp only at *
  have hH := hsF_lt nm
  have emk : mkS nm (K, N, dep, pos, cnt, sc, mg, ids) = (inF K (paF K cnt ((hsF nm * 1000 + ids : Nat) : Int)) cnt (hsF nm * 1000 + ids), inF N (paF K cnt ((hsF nm * 1000 + ids : Nat) : Int)) cnt nm, (spF (bgS (inF K (paF K cnt ((hsF nm * 1000 + ids : Nat) : Int)) cnt (hsF nm * 1000 + ids)) (cnt + 1) (hsF nm)) (hsF nm) (6 - dep (hsF nm)) (dep (hsF nm)) (dep, sc)).1, pos, cnt + 1, (spF (bgS (inF K (paF K cnt ((hsF nm * 1000 + ids : Nat) : Int)) cnt (hsF nm * 1000 + ids)) (cnt + 1) (hsF nm)) (hsF nm) (6 - dep (hsF nm)) (dep (hsF nm)) (dep, sc)).2, mg, ids + 1) := rfl
  rw [emk] at ho2 ⊢
  have hcl := paF_p hS ((hsF nm * 1000 + ids : Nat) : Int)
  have hple := paF_le K cnt ((hsF nm * 1000 + ids : Nat) : Int)
  generalize hpd : paF K cnt ((hsF nm * 1000 + ids : Nat) : Int) = p at *
  generalize hsF nm = H at *
  have hlow : ∀ j, j < p → K j < H * 1000 + ids := fun j hj => by
    have h1 := hcl.1 j hj
    have h2 := hI j (by omega)
    omega
  have hhigh : ∀ j, p ≤ j → j < cnt → H * 1000 + ids < K j := fun j h1 h2 => by
    have := hcl.2 j h1 h2
    omega
  have hSG : srtF (inF K p cnt (H * 1000 + ids)) (cnt + 1) := by
    intro i j hij hj
    rw [inF_v, inF_v]
    by_cases ci : i = p
    · rw [if_pos ci, if_neg (by omega), if_pos (by omega)]
      exact hhigh _ (by omega) (by omega)
    · rw [if_neg ci]
      by_cases cj : j = p
      · rw [if_pos cj, if_neg (by omega)]
        exact hlow i (by omega)
      · rw [if_neg cj]
        by_cases c1 : p < i
        · rw [if_pos (by omega), if_pos (by omega)]
          exact hS _ _ (by omega) (by omega)
        · rw [if_neg (by omega)]
          by_cases c2 : p < j
          · rw [if_pos (by omega)]
            have h1 := hlow i (by omega)
            have h2 := hhigh (j - 1) (by omega) (by omega)
            omega
          · rw [if_neg (by omega)]
            exact hS i j hij (by omega)
  have hIG : ∀ j, j < cnt + 1 → inF K p cnt (H * 1000 + ids) j % 1000 < ids + 1 := by
    intro j hj
    rw [inF_v]
    by_cases cj : j = p
    · rw [if_pos cj]; omega
    · rw [if_neg cj]
      by_cases c1 : p < j
      · rw [if_pos (by omega)]
        have := hI (j - 1) (by omega)
        omega
      · rw [if_neg (by omega)]
        have := hI j (by omega)
        omega
  have hUG : ∀ i j, i < cnt + 1 → j < cnt + 1 → inF K p cnt (H * 1000 + ids) i % 1000 = inF K p cnt (H * 1000 + ids) j % 1000 → i = j := by
    have key : ∀ j, j < cnt + 1 → j ≠ p → ∃ q, q < cnt ∧ inF K p cnt (H * 1000 + ids) j = K q ∧ (j < p → q = j) ∧ (p < j → q + 1 = j) := by
      intro j hj cj
      rw [inF_v, if_neg cj]
      by_cases c1 : p < j
      · rw [if_pos (by omega)]
        exact ⟨j - 1, by omega, rfl, fun _ => by omega, fun _ => by omega⟩
      · rw [if_neg (by omega)]
        exact ⟨j, by omega, rfl, fun _ => rfl, fun _ => by omega⟩
    have kp : inF K p cnt (H * 1000 + ids) p % 1000 = ids := by rw [inF_v, if_pos rfl]; omega
    intro i j hi9 hj e
    by_cases ci : i = p
    · by_cases cj : j = p
      · omega
      · obtain ⟨q, q1, q2, -⟩ := key j hj cj
        rw [ci, kp, q2] at e
        have := hI q q1
        omega
    · obtain ⟨r, r1, r2, r3, r4⟩ := key i hi9 ci
      by_cases cj : j = p
      · rw [cj, kp, r2] at e
        have := hI r r1
        omega
      · obtain ⟨q, q1, q2, q3, q4⟩ := key j hj cj
        rw [r2, q2] at e
        have := hU r q r1 q1 e
        omega
  have hNG : ∀ j, j < cnt + 1 → ltF (inF N p cnt nm j) 0 ≠ 0 := by
    intro j hj
    rw [inF_v]
    by_cases cj : j = p
    · rw [if_pos cj]; exact hl
    · rw [if_neg cj]
      by_cases c1 : p < j
      · rw [if_pos (by omega)]; exact hN _ (by omega)
      · rw [if_neg (by omega)]; exact hN _ (by omega)
  have hk9 : ∀ k, k < cnt + 1 → inF K p cnt (H * 1000 + ids) k < 64000 := fun k hk => ho2.2.1 k (by omega)
  have hcw : ∀ h d, cwF (inF K p cnt (H * 1000 + ids)) (cnt + 1) h d = cwF K cnt h d + brF h d (H * 1000 + ids) := fun h d => suF_ins hple
  have hbr : ∀ h d, brF h d (H * 1000 + ids) = if fhF H d = fhF h d then 1 else 0 := fun h d => by
    rw [brF_e, show (H * 1000 + ids) / 1000 = H by omega]
  have hsp := spF_ok (K := inF K p cnt (H * 1000 + ids)) (n9 := cnt + 1) (m := mg) (big := bgS (inF K p cnt (H * 1000 + ids)) (cnt + 1) H) hH hk9 (fun e he => by
    unfold bgS
    rw [cb_cw hH he hSG hk9]) (fun e he => by rw [hcw, hbr, if_pos rfl]; omega) (6 - dep H) (dep H) dep sc (by have := (hT H hH).1; omega) hT rfl hL (fun h6 => by
      have := hQ H hH h6
      rw [hcw, hbr, if_pos rfl]; omega) (fun x hx hn h6 => by
      have := hQ x hx h6
      rw [hcw, hbr, if_neg (fun z => hn ?_)]
      · omega
      · by_cases c : fhF x (dep H) = fhF H (dep H)
        · exact c
        · -- another leaf's block does not meet H's
          have hx2 := (hT x hx).2 H hH z
          rw [← hx2] at z
          exact z.symm)
  exact ⟨⟨⟨ho2, hp⟩, ⟨hSG, hIG, hUG, hNG⟩, hsp.1, hsp.2.1, hsp.2.2.2⟩, Nat.le_trans hsp.2.2.1 (by show sc + (6 - dep H) ≤ sc + 6; omega)⟩
theorem Gd_rm {k : Nat} {s : StV} (h : Gd s) (hk : k < s.2.2.2.2.1) : Gd (rmS k s) ∧ (rmS k s).2.2.2.2.2.2.1 ≤ s.2.2.2.2.2.2.1 + 6 ∧
    ((rmS k s).2.2.1 (s.1 k / 1000) = 0 ∨ (rmS k s).2.2.1 (sbF (s.1 k / 1000) ((rmS k s).2.2.1 (s.1 k / 1000))) ≠ (rmS k s).2.2.1 (s.1 k / 1000) ∨ 2 < cwF (rmS k s).1 (s.2.2.2.2.1 - 1) (s.1 k / 1000) ((rmS k s).2.2.1 (s.1 k / 1000) - 1)) := by
  obtain ⟨⟨ho, hp⟩, ⟨hS, hI, hU, hN⟩, hT, hL, hQ⟩ := h
  have hc40 := ho.1
  have ho2 := okS_rm (k := k) ho (by omega)
  obtain ⟨K, N, dep, pos, cnt, sc, mg, ids⟩ := s
  dsimp only at *
  have hKk := ho.2.1 k (by omega)
  have hH : K k / 1000 < 64 := by have : K k < 64000 := hKk; omega
  have emk : rmS k (K, N, dep, pos, cnt, sc, mg, ids) = (shL K k (cnt - 1), shL N k (cnt - 1), (mgF (smF (shL K k (cnt - 1)) (cnt - 1) (K k / 1000)) (K k / 1000) (dep (K k / 1000)) (dep, mg)).1, pos, cnt - 1, sc, (mgF (smF (shL K k (cnt - 1)) (cnt - 1) (K k / 1000)) (K k / 1000) (dep (K k / 1000)) (dep, mg)).2, ids) := rfl
  rw [emk] at ho2 ⊢
  generalize hHe : K k / 1000 = H at *
  have hSG : srtF (shL K k (cnt - 1)) (cnt - 1) := by
    intro i j hij hj
    rw [shL_v, shL_v]
    split <;> split <;> exact hS _ _ (by omega) (by omega)
  have hIG : ∀ j, j < cnt - 1 → shL K k (cnt - 1) j % 1000 < ids := by
    intro j hj
    rw [shL_v]
    split <;> exact hI _ (by omega)
  have hUG : ∀ i j, i < cnt - 1 → j < cnt - 1 → shL K k (cnt - 1) i % 1000 = shL K k (cnt - 1) j % 1000 → i = j := by
    intro i j hi hj e
    rw [shL_v, shL_v] at e
    split at e <;> split at e <;> (have := hU _ _ (by omega) (by omega) e; omega)
  have hNG : ∀ j, j < cnt - 1 → ltF (shL N k (cnt - 1) j) 0 ≠ 0 := by
    intro j hj
    rw [shL_v]
    split <;> exact hN _ (by omega)
  have hk9 : ∀ i, i < cnt - 1 → shL K k (cnt - 1) i < 64000 := fun i hi => ho2.2.1 i (by omega)
  have hcw : ∀ h d, cwF (shL K k (cnt - 1)) (cnt - 1) h d + brF h d (K k) = cwF K cnt h d := fun h d => suF_out hk
  have hsp := mgF_ok (K := shL K k (cnt - 1)) (n9 := cnt - 1) (m := 1 + sc) (small := smF (shL K k (cnt - 1)) (cnt - 1) H) hH hk9 (fun e he => by
    unfold smF
    rw [cb_cw hH he hSG hk9]) (dep H) dep mg (hT H hH).1 hT rfl hL (fun x hx h6 => by
      have h1 := hQ x hx h6
      have h2 := hcw x (dep x)
      omega)
  refine ⟨⟨⟨ho2, hp⟩, ⟨hSG, hIG, hUG, hNG⟩, hsp.1, hsp.2.1, hsp.2.2.2.1⟩, Nat.le_trans hsp.2.2.1 (by have := (hT H hH).1; show mg + dep H ≤ mg + 6; omega), hsp.2.2.2.2⟩
/-- an entry is found by its id -/
theorem fo_id {s : StV} (h : Gd s) {k : Nat} (hk : k < s.2.2.2.2.1) : foF (idP s.1 ((s.1 k % 1000 : Nat) : Int)) s.2.2.2.2.1 = ((k : Nat) : Int) :=
  (foF_yes (p := idP s.1 ((s.1 k % 1000 : Nat) : Int)) hk (fun j hj => decide_eq_false (fun z => by
    have := h.2.1.2.2.1 j k (by omega) hk (by omega)
    omega)) (decide_eq_true rfl)).symm
theorem fo_nn (k : Nat) : ((k : Nat) : Int) ≠ -1 ∧ (((k : Nat) : Int)).toNat = k := ⟨by omega, by omega⟩
