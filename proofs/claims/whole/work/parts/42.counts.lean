/-! entries in their order, counted -/
def srtF (K : Nat → Nat) (n : Nat) : Prop := ∀ i j, i < j → j < n → K i < K j
/-- how many of the first n keys are at most key -/
def cnL (K : Nat → Nat) (key : Int) : Nat → Nat
  | 0 => 0
  | n + 1 => cnL K key n + if ((K n : Nat) : Int) ≤ key then 1 else 0
theorem cnL_le (K : Nat → Nat) (key : Int) : ∀ n, cnL K key n ≤ n
  | 0 => Nat.le_refl 0
  | n + 1 => by
    have := cnL_le K key n
    unfold cnL
    split <;> omega
theorem cnL_p {K : Nat → Nat} {key : Int} : ∀ n, srtF K n → (∀ j, j < cnL K key n → ((K j : Nat) : Int) ≤ key) ∧ ∀ j, cnL K key n ≤ j → j < n → key < ((K j : Nat) : Int)
  | 0, _ => ⟨fun j h => absurd h (Nat.not_lt_zero j), fun j _ h => absurd h (Nat.not_lt_zero j)⟩
  | n + 1, hs => by
    obtain ⟨i1, i2⟩ := cnL_p (key := key) n (fun i j a b => hs i j a (by omega))
    have hl := cnL_le K key n
    have e : cnL K key (n + 1) = cnL K key n + if ((K n : Nat) : Int) ≤ key then 1 else 0 := rfl
    rw [e]
    by_cases h : ((K n : Nat) : Int) ≤ key
    · rw [if_pos h]
      have hn : cnL K key n = n := by
        rcases Nat.lt_or_ge (cnL K key n) n with h9 | h9
        · have h1 := i2 (n - 1) (by omega) (by omega)
          have h2 := hs (n - 1) n (by omega) (by omega)
          omega
        · omega
      rw [hn] at i1 ⊢
      refine ⟨fun j hj => ?_, fun j a b => absurd a (by omega)⟩
      rcases Nat.lt_or_ge j n with h9 | h9
      · exact i1 j h9
      · rw [show j = n by omega]; exact h
    · rw [if_neg h]
      refine ⟨fun j hj => i1 j (by omega), fun j a b => ?_⟩
      rcases Nat.lt_or_ge j n with h9 | h9
      · exact i2 j (by omega) h9
      · rw [show j = n by omega]; omega
theorem paF_cn {K : Nat → Nat} {n : Nat} (hs : srtF K n) (key : Int) : paF K n key = cnL K key n := by
  obtain ⟨h1, h2⟩ := cnL_p (key := key) n hs
  exact (paF_eq (cnL_le K key n) h1 (fun h => h2 _ (Nat.le_refl _) h)).symm
theorem qF_in {h b j : Nat} (hh : h < 64) (hb : b < 7) (hj : j < 64) : qF j (6 - b) = qF h (6 - b) ↔ (fhF h b ≤ j ∧ j < lhF h b + 1) := by
  have : ∀ b, b < 7 → ∀ h, h < 64 → ∀ j, j < 64 → (qF j (6 - b) = qF h (6 - b) ↔ (fhF h b ≤ j ∧ j < lhF h b + 1)) := by decide +kernel
  exact this b hb h hh j hj
theorem bg_cn {g : Nat → Int} {K : Nat → Nat} {h b : Nat} (hh : h < 64) (hb : b < 7) : ∀ n, (∀ k, k < n → 0 ≤ mI g k 1 ∧ mI g k 1 < 64 ∧ K k / 1000 = (mI g k 1).toNat) → bgF g h b n + cnL K (((fhF h b * 1000 : Nat) : Int) - 1) n = cnL K ((lhF h b * 1000 + 999 : Nat) : Int) n
  | 0, _ => rfl
  | n + 1, he => by
    have ih := bg_cn (g := g) (K := K) hh hb n (fun k hk => he k (by omega))
    obtain ⟨h1, h2, h3⟩ := he n (by omega)
    have hq := qF_in hh hb (show (mI g n 1).toNat < 64 by omega)
    have hf := fh_le hh hb
    show bgF g h b n + (if qF (mI g n 1).toNat (6 - b) = qF h (6 - b) then 1 else 0) + (cnL K (((fhF h b * 1000 : Nat) : Int) - 1) n + if ((K n : Nat) : Int) ≤ ((fhF h b * 1000 : Nat) : Int) - 1 then 1 else 0) = cnL K ((lhF h b * 1000 + 999 : Nat) : Int) n + if ((K n : Nat) : Int) ≤ ((lhF h b * 1000 + 999 : Nat) : Int) then 1 else 0
    have hk : K n = 1000 * (K n / 1000) + K n % 1000 := by omega
    have hm : K n % 1000 < 1000 := Nat.mod_lt _ (by decide)
    rw [h3] at hk
    by_cases c : qF (mI g n 1).toNat (6 - b) = qF h (6 - b)
    · obtain ⟨a1, a2⟩ := hq.mp c
      rw [if_pos c, if_neg (by omega), if_pos (by omega)]
      omega
    · rw [if_neg c]
      rcases Nat.lt_or_ge (mI g n 1).toNat (fhF h b) with a | a
      · rw [if_pos (by omega), if_pos (by omega)]
        omega
      · have a2 : lhF h b < (mI g n 1).toNat := by
          rcases Nat.lt_or_ge (lhF h b) (mI g n 1).toNat with z | z
          · exact z
          · exact absurd (hq.mpr ⟨a, by omega⟩) c
        rw [if_neg (by omega), if_neg (by omega)]
        omega
theorem cb_bg {g : Nat → Int} {K : Nat → Nat} {h b n : Nat} (hh : h < 64) (hb : b < 7) (hs : srtF K n) (he : ∀ k, k < n → 0 ≤ mI g k 1 ∧ mI g k 1 < 64 ∧ K k / 1000 = (mI g k 1).toNat) : cbF K n h b = bgF g h b n := by
  have := bg_cn hh hb n he
  unfold cbF
  rw [paF_cn hs, paF_cn hs]
  omega
theorem bgF_cong {g g2 : Nat → Int} {h b : Nat} : ∀ n, (∀ k, k < n → mI g2 k 1 = mI g k 1) → bgF g2 h b n = bgF g h b n
  | 0, _ => rfl
  | n + 1, hc => by
    show bgF g2 h b n + _ = bgF g h b n + _
    rw [bgF_cong n (fun k hk => hc k (by omega)), hc n (by omega)]
/-- the place of a new key -/
theorem mpF_pa {g : Nat → Int} {K : Nat → Nat} {key : Int} : ∀ n, srtF K n → (∀ k, k < n → mK g k = ((K k : Nat) : Int)) → mpF g key n = paF K n key := by
  intro n hs hk
  refine paF_eq (mpF_le g key n) ?_ ?_
  · have : ∀ n, srtF K n → (∀ k, k < n → mK g k = ((K k : Nat) : Int)) → ∀ j, j < mpF g key n → ((K j : Nat) : Int) ≤ key := by
      intro n
      induction n with
      | zero => intro _ _ j hj; exact absurd hj (Nat.not_lt_zero j)
      | succ n ih =>
        intro hs hk j hj
        unfold mpF at hj
        split at hj
        · exact ih (fun i j a b => hs i j a (by omega)) (fun k h9 => hk k (by omega)) j hj
        · rename_i h9
          have h8 := hk n (by omega)
          rcases Nat.lt_or_ge j n with h7 | h7
          · have := hs j n h7 (by omega)
            omega
          · rw [show j = n by omega]; omega
    exact this n hs hk
  · have : ∀ n, (∀ k, k < n → mK g k = ((K k : Nat) : Int)) → ∀ j, mpF g key n ≤ j → j < n → key < ((K j : Nat) : Int) := by
      intro n
      induction n with
      | zero => intro _ j _ hj; exact absurd hj (Nat.not_lt_zero j)
      | succ n ih =>
        intro hk j hj hjn
        unfold mpF at hj
        split at hj
        · rename_i h9
          rcases Nat.lt_or_ge j n with h7 | h7
          · exact ih (fun k h9 => hk k (by omega)) j hj h7
          · rw [show j = n by omega]
            have := hk n (by omega)
            omega
        · omega
    exact fun h => this n hk _ (Nat.le_refl _) h
/-- the end of a leaf -/
theorem rlF_p {same : Nat → Bool} : ∀ k i, i ≤ rlF same k i ∧ rlF same k i ≤ i + k ∧ (∀ j, i ≤ j → j < rlF same k i → same j = true) ∧ (rlF same k i < i + k → same (rlF same k i) = false)
  | 0, i => ⟨Nat.le_refl i, Nat.le_refl i, fun j a b => absurd (show j < i from b) (by omega), fun h => absurd (show i < i + 0 from h) (by omega)⟩
  | k + 1, i => by
    obtain ⟨h1, h2, h3, h4⟩ := rlF_p (same := same) k (i + 1)
    unfold rlF
    split
    · rename_i h9
      refine ⟨by omega, by omega, fun j a b => ?_, fun h => h4 (by omega)⟩
      rcases Nat.eq_or_lt_of_le a with h8 | h8
      · rw [← h8]; exact h9
      · exact h3 j (by omega) b
    · rename_i h9
      refine ⟨by omega, by omega, fun j a b => absurd b (by omega), fun _ => ?_⟩
      cases hs : same i
      · rfl
      · exact absurd hs h9
theorem el_rl {g : Nat → Int} {K dep : Nat → Nat} {cnt p : Nat} (hs : srtF K cnt) (hp : p < cnt) (he : ∀ k, k < cnt → 0 ≤ mI g k 1 ∧ mI g k 1 < 64 ∧ K k / 1000 = (mI g k 1).toNat) (hd : dep (K p / 1000) < 7) : elF K dep cnt p = rlF (rlS g (mI g p 1).toNat (6 - dep (K p / 1000))) (cnt - p) p := by
  obtain ⟨h1, h2, h3, h4⟩ := rlF_p (same := rlS g (mI g p 1).toNat (6 - dep (K p / 1000))) (cnt - p) p
  obtain ⟨e1, e2, e3⟩ := he p hp
  have hh : (mI g p 1).toNat < 64 := by omega
  unfold elF
  rw [e3] at h1 h2 h3 h4 hd ⊢
  have hf := fh_le hh hd
  refine (paF_eq (by omega) (fun j hj => ?_) (fun hr => ?_)).symm
  · rcases Nat.lt_or_ge j p with h9 | h9
    · have := hs j p h9 hp
      have hm : K p % 1000 < 1000 := Nat.mod_lt _ (by decide)
      omega
    · have := of_decide_eq_true (h3 j h9 hj)
      obtain ⟨k1, k2, k3⟩ := he j (by omega)
      have := ((qF_in hh hd (by omega)).mp this).2
      have hm : K j % 1000 < 1000 := Nat.mod_lt _ (by decide)
      omega
  · have h5 := h4 (by omega)
    have h5 := of_decide_eq_false h5
    generalize rlF (rlS g (mI g p 1).toNat (6 - dep (mI g p 1).toNat)) (cnt - p) p = q at *
    obtain ⟨k1, k2, k3⟩ := he q hr
    have hpq : p < q := by
      rcases Nat.eq_or_lt_of_le h1 with z | z
      · subst z; exact absurd rfl h5
      · exact z
    have h6 := hs p q hpq hr
    have h7 : fhF (mI g p 1).toNat (dep (mI g p 1).toNat) ≤ (mI g q 1).toNat := by omega
    have h8 : lhF (mI g p 1).toNat (dep (mI g p 1).toNat) < (mI g q 1).toNat := by
      rcases Nat.lt_or_ge (lhF (mI g p 1).toNat (dep (mI g p 1).toNat)) (mI g q 1).toNat with z | z
      · exact z
      · exact absurd ((qF_in hh hd (by omega)).mpr ⟨h7, by omega⟩) h5
    omega
/-- splits and merges, side by side -/
theorem split_both {h cnt m : Nat} {big : Nat → Bool} (hh : h < 64) : ∀ k d f n g, d + k = 6 → TreeR f g → f h = d → lcF f 64 + m = 1 + n → (∀ e, e < 7 → big e = decide (4 < bgF g h e cnt)) → cnt ≤ 40 → g 2 = ((n : Nat) : Int) →
    TreeR (spF big h k d (f, n)).1 (msF h cnt k d g) ∧ msF h cnt k d g 2 = (((spF big h k d (f, n)).2 : Nat) : Int) ∧ lcF (spF big h k d (f, n)).1 64 + m = 1 + (spF big h k d (f, n)).2 ∧ (spF big h k d (f, n)).2 ≤ n + k
  | 0, d, f, n, g, _, hT, _, hl, _, _, h2 => ⟨hT, h2, hl, Nat.le_refl n⟩
  | k + 1, d, f, n, g, hdk, hT, hf, hl, hb, hc, h2 => by
    unfold spF msF
    rw [hb d (by omega)]
    by_cases c : 4 < bgF g h d cnt
    · rw [if_pos (decide_eq_true c), if_pos c]
      have hn5 := ndF_lt5 hh (show d < 6 by omega)
      have hT2 := tree_set (g2 := zU (zU g (8 + ndF h d) 1) 2 (g 2 + 1)) hT hh (by omega) hf (fun n n1 n2 => by
        rw [zU_n _ _ (by omega)]
        by_cases z : n = ndF h d
        · rw [if_pos z, z, zU_s]
        · rw [if_neg z, zU_n _ _ (by omega)])
      have hi : fhF h d ≤ h ∧ h < lhF h d + 1 := by have := fh_le hh (show d < 7 by omega); omega
      have hl2 := lc_split hT hh (show d < 6 by omega) hf
      have r := split_both hh (m := m) (cnt := cnt) (big := big) k (d + 1) (seF f (fhF h d) (lhF h d + 1) (d + 1)) (n + 1) (zU (zU g (8 + ndF h d) 1) 2 (g 2 + 1)) (by omega) hT2 (by rw [seF_v, if_pos hi]) (by omega) (fun e he => by
        rw [hb e he, bgF_cong (g2 := zU (zU g (8 + ndF h d) 1) 2 (g 2 + 1)) (g := g) cnt (fun k hk => by unfold mI; rw [zU_n _ _ (by omega), zU_n _ _ (by omega)])]) hc (by rw [zU_s, h2]; omega)
      exact ⟨r.1, r.2.1, r.2.2.1, Nat.le_trans r.2.2.2 (by omega)⟩
    · rw [if_neg (by rw [decide_eq_false c]; decide), if_neg c]
      exact ⟨hT, h2, hl, by show n ≤ n + (k + 1); omega⟩
theorem merge_both {h cnt m : Nat} {small : Nat → Bool} (hh : h < 64) : ∀ d f n g, d < 7 → TreeR f g → f h = d → lcF f 64 + n = m → (∀ e, e < 7 → small e = decide (bgF g h e cnt ≤ 2)) → cnt ≤ 40 → g 3 = ((n : Nat) : Int) →
    TreeR (mgF small h d (f, n)).1 (mgM h cnt d g) ∧ mgM h cnt d g 3 = (((mgF small h d (f, n)).2 : Nat) : Int) ∧ lcF (mgF small h d (f, n)).1 64 + (mgF small h d (f, n)).2 = m
  | 0, f, n, g, _, hT, _, hl, _, _, h2 => ⟨hT, h2, hl⟩
  | d + 1, f, n, g, hd, hT, hf, hl, hb, hc, h2 => by
    unfold mgF mgM
    rw [hb d (by omega)]
    have hs := tree_sib hT hh (show d < 6 by omega) hf
    by_cases c : bgF g h d cnt ≤ 2 ∧ (d + 1 = 6 ∨ g (8 + nsF (ndF h (d + 1))) = 0)
    · rw [if_pos c, if_pos ⟨hs.mpr c.2, decide_eq_true c.1⟩]
      have hn5 := ndF_lt5 hh (show d < 6 by omega)
      have hT2 := tree_clr (g2 := zU (zU g (8 + ndF h d) 0) 3 (g 3 + 1)) hT hh (by omega) hf c.2 (fun n n1 n2 => by
        rw [zU_n _ _ (by omega)]
        by_cases z : n = ndF h d
        · rw [if_pos z, z, zU_s]
        · rw [if_neg z, zU_n _ _ (by omega)])
      have hi : fhF h d ≤ h ∧ h < lhF h d + 1 := by have := fh_le hh (show d < 7 by omega); omega
      have hl2 := lc_merge hT hh (show d < 6 by omega) hf (hs.mpr c.2)
      exact merge_both hh (m := m) (cnt := cnt) (small := small) d (seF f (fhF h d) (lhF h d + 1) d) (n + 1) (zU (zU g (8 + ndF h d) 0) 3 (g 3 + 1)) (by omega) hT2 (by rw [seF_v, if_pos hi]) (by omega) (fun e he => by
        rw [hb e he, bgF_cong (g2 := zU (zU g (8 + ndF h d) 0) 3 (g 3 + 1)) (g := g) cnt (fun k hk => by unfold mI; rw [zU_n _ _ (by omega), zU_n _ _ (by omega)])]) hc (by rw [zU_s, h2]; omega)
    · rw [if_neg c, if_neg (fun z => c ⟨of_decide_eq_true z.2, hs.mp z.1⟩)]
      exact ⟨hT, h2, hl⟩
