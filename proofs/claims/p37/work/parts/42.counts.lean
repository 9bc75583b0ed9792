/-! entries in their order, counted -/
def srtF (K : Nat → Nat) (n : Nat) : Prop := ∀ i j, i < j → j < n → K i < K j
/-- how many of the first n keys are at most key -/
def cnL (K : Nat → Nat) (key : Int) : Nat → Nat
  | 0 => 0
  | n + 1 => cnL K key n + if ((K n : Nat) : Int) ≤ key then 1 else 0
theorem cnL_le (K : Nat → Nat) (key : Int) : ∀ n, cnL K key n ≤ n
  | 0 => Nat.le_refl 0
  | n + 1 => by
    have := cnL_le K key n
    unfold cnL
    split <;> omega
theorem cnL_p {K : Nat → Nat} {key : Int} : ∀ n, srtF K n → (∀ j, j < cnL K key n → ((K j : Nat) : Int) ≤ key) ∧ ∀ j, cnL K key n ≤ j → j < n → key < ((K j : Nat) : Int)
  | 0, _ => ⟨fun j h => absurd h (Nat.not_lt_zero j), fun j _ h => absurd h (Nat.not_lt_zero j)⟩
  | n + 1, hs => by
    obtain ⟨i1, i2⟩ := cnL_p (key := key) n (fun i j a b => hs i j a (by omega))
    have hl := cnL_le K key n
    have e : cnL K key (n + 1) = cnL K key n + if ((K n : Nat) : Int) ≤ key then 1 else 0 := rfl
    rw [e]
    by_cases h : ((K n : Nat) : Int) ≤ key
    · rw [if_pos h]
      have hn : cnL K key n = n := by
        rcases Nat.lt_or_ge (cnL K key n) n with h9 | h9
        · have h1 := i2 (n - 1) (by omega) (by omega)
          have h2 := hs (n - 1) n (by omega) (by omega)
          omega
        · omega
      rw [hn] at i1 ⊢
      refine ⟨fun j hj => ?_, fun j a b => absurd a (by omega)⟩
      rcases Nat.lt_or_ge j n with h9 | h9
      · exact i1 j h9
      · rw [show j = n by omega]; exact h
    · rw [if_neg h]
      refine ⟨fun j hj => i1 j (by omega), fun j a b => ?_⟩
      rcases Nat.lt_or_ge j n with h9 | h9
      · exact i2 j (by omega) h9
      · rw [show j = n by omega]; omega
theorem paF_cn {K : Nat → Nat} {n : Nat} (hs : srtF K n) (key : Int) : paF K n key = cnL K key n := by
  obtain ⟨h1, h2⟩ := cnL_p (key := key) n hs
  exact (paF_eq (cnL_le K key n) h1 (fun h => h2 _ (Nat.le_refl _) h)).symm
theorem paF_p {K : Nat → Nat} {n : Nat} (hs : srtF K n) (key : Int) : (∀ j, j < paF K n key → ((K j : Nat) : Int) ≤ key) ∧ ∀ j, paF K n key ≤ j → j < n → key < ((K j : Nat) : Int) := by
  rw [paF_cn hs]
  exact cnL_p n hs
/-- a sum over the first n keys -/
def suF (w : Nat → Nat) (K : Nat → Nat) : Nat → Nat
  | 0 => 0
  | n + 1 => suF w K n + w (K n)
theorem suF_cong {w : Nat → Nat} {K L : Nat → Nat} : ∀ n, (∀ k, k < n → K k = L k) → suF w K n = suF w L n
  | 0, _ => rfl
  | n + 1, h => by
    show suF w K n + w (K n) = suF w L n + w (L n)
    rw [suF_cong n (fun k hk => h k (by omega)), h n (by omega)]
theorem suF_in {w K : Nat → Nat} {p n x : Nat} (hp : p ≤ n) : ∀ m, m ≤ n + 1 → suF w (inF K p n x) m = if m ≤ p then suF w K m else suF w K (m - 1) + w x
  | 0, _ => by rw [if_pos (Nat.zero_le _)]; rfl
  | m + 1, hm => by
    have ih := suF_in (w := w) (K := K) (x := x) hp m (by omega)
    show suF w (inF K p n x) m + w (inF K p n x m) = _
    rw [ih, inF_v]
    rcases Nat.lt_trichotomy m p with c | c | c
    · rw [if_pos (by omega), if_neg (by omega), if_neg (by omega), if_pos (by omega)]; rfl
    · rw [if_pos (by omega), if_pos c, if_neg (by omega)]; rfl
    · rw [if_neg (by omega), if_neg (by omega), if_pos (by omega), if_neg (by omega)]
      obtain ⟨q, rfl⟩ : ∃ q, m = q + 1 := ⟨m - 1, by omega⟩
      show suF w K q + w x + w (K q) = suF w K q + w (K q) + w x
      omega
theorem suF_ins {w K : Nat → Nat} {p n x : Nat} (hp : p ≤ n) : suF w (inF K p n x) (n + 1) = suF w K n + w x := by
  rw [suF_in hp (n + 1) (Nat.le_refl _), if_neg (by omega)]; rfl
theorem suF_sh {w K : Nat → Nat} {k n : Nat} (hk : k < n) : ∀ m, m ≤ n - 1 → suF w (shL K k (n - 1)) m + (if m ≤ k then 0 else w (K k)) = if m ≤ k then suF w K m else suF w K (m + 1)
  | 0, _ => by rw [if_pos (Nat.zero_le _), if_pos (Nat.zero_le _)]; rfl
  | m + 1, hm => by
    have ih := suF_sh (w := w) (K := K) hk m (by omega)
    show suF w (shL K k (n - 1)) m + w (shL K k (n - 1) m) + _ = _
    rw [shL_v]
    rcases Nat.lt_trichotomy m k with c | c | c
    · rw [if_pos (by omega), if_pos (by omega)] at ih
      rw [if_neg (by omega), if_pos (by omega), if_pos (by omega)]
      show _ = suF w K m + w (K m)
      omega
    · rw [if_pos (by omega), if_pos (by omega)] at ih
      rw [if_pos (by omega), if_neg (by omega), if_neg (by omega)]
      show _ = suF w K m + w (K m) + w (K (m + 1))
      subst c
      omega
    · rw [if_neg (by omega), if_neg (by omega)] at ih
      rw [if_pos (by omega), if_neg (by omega), if_neg (by omega)]
      show _ = suF w K (m + 1) + w (K (m + 1))
      omega
theorem suF_out {w K : Nat → Nat} {k n : Nat} (hk : k < n) : suF w (shL K k (n - 1)) (n - 1) + w (K k) = suF w K n := by
  have h := suF_sh (w := w) (K := K) hk (n - 1) (Nat.le_refl _)
  by_cases c : n - 1 ≤ k
  · rw [if_pos c, if_pos c] at h
    have e : k = n - 1 := by omega
    obtain ⟨q, rfl⟩ : ∃ q, n = q + 1 := ⟨n - 1, by omega⟩
    rw [e]
    show _ = suF w K q + w (K q)
    have : q + 1 - 1 = q := by omega
    rw [this] at h ⊢
    rw [e, this] at h
    omega
  · rw [if_neg c, if_neg c, show n - 1 + 1 = n by omega] at h
    exact h
/-- one if the key lies in the branch -/
def brF (h d : Nat) (key : Nat) : Nat := if fhF (key / 1000) d = fhF h d then 1 else 0
theorem brF_e (h d key : Nat) : brF h d key = if fhF (key / 1000) d = fhF h d then 1 else 0 := rfl
abbrev cwF (K : Nat → Nat) (n h d : Nat) : Nat := suF (brF h d) K n
theorem cw_cn {K : Nat → Nat} {h d : Nat} (hh : h < 64) (hd : d < 7) : ∀ n, (∀ k, k < n → K k < 64000) → cwF K n h d + cnL K (((fhF h d * 1000 : Nat) : Int) - 1) n = cnL K ((lhF h d * 1000 + 999 : Nat) : Int) n
  | 0, _ => rfl
  | n + 1, he => by
    have ih := cw_cn (K := K) hh hd n (fun k hk => he k (by omega))
    have h1 := he n (by omega)
    have hq := bl_in hh hd (show K n / 1000 < 64 by omega)
    have hf := fh_le hh hd
    show cwF K n h d + brF h d (K n) + (cnL K (((fhF h d * 1000 : Nat) : Int) - 1) n + if ((K n : Nat) : Int) ≤ ((fhF h d * 1000 : Nat) : Int) - 1 then 1 else 0) = cnL K ((lhF h d * 1000 + 999 : Nat) : Int) n + if ((K n : Nat) : Int) ≤ ((lhF h d * 1000 + 999 : Nat) : Int) then 1 else 0
    have hk : K n = 1000 * (K n / 1000) + K n % 1000 := by omega
    have hm : K n % 1000 < 1000 := Nat.mod_lt _ (by decide)
    rw [brF_e]
    generalize K n / 1000 = H at *
    by_cases c : fhF H d = fhF h d
    · obtain ⟨a1, a2⟩ := hq.mpr c
      rw [if_pos c, if_neg (by omega), if_pos (by omega)]
      omega
    · rw [if_neg c]
      rcases Nat.lt_or_ge H (fhF h d) with a | a
      · rw [if_pos (by omega), if_pos (by omega)]
        omega
      · have a2 : lhF h d < H := by
          rcases Nat.lt_or_ge (lhF h d) H with z | z
          · exact z
          · exact absurd (hq.mp ⟨a, by omega⟩) c
        rw [if_neg (by omega), if_neg (by omega)]
        omega
theorem cb_cw {K : Nat → Nat} {h d n : Nat} (hh : h < 64) (hd : d < 7) (hs : srtF K n) (he : ∀ k, k < n → K k < 64000) : cbF K n h d = cwF K n h d := by
  have := cw_cn hh hd n he
  unfold cbF
  rw [paF_cn hs, paF_cn hs]
  omega
theorem cw_same {K : Nat → Nat} {n h j d : Nat} (e : fhF j d = fhF h d) : cwF K n j d = cwF K n h d := by
  show suF (brF j d) K n = suF (brF h d) K n
  rw [show brF j d = brF h d from funext (fun key => by rw [brF_e, brF_e, e])]
theorem cw_two {K : Nat → Nat} {h d : Nat} (hh : h < 64) (hd : d < 6) : ∀ n, (∀ k, k < n → K k < 64000) → cwF K n h d = cwF K n h (d + 1) + cwF K n (sbF h (d + 1)) (d + 1)
  | 0, _ => rfl
  | n + 1, he => by
    have ih := cw_two (K := K) hh hd n (fun k hk => he k (by omega))
    have h1 := he n (by omega)
    have hH : K n / 1000 < 64 := by omega
    have h2 := bl_two hh hd hH
    obtain ⟨s1, s2, s3⟩ := bl_sb hh hd
    have u1 := bl_up hh hd hH
    have u2 := bl_up s1 hd hH
    show cwF K n h d + brF h d (K n) = cwF K n h (d + 1) + brF h (d + 1) (K n) + (cwF K n (sbF h (d + 1)) (d + 1) + brF (sbF h (d + 1)) (d + 1) (K n))
    rw [brF_e, brF_e, brF_e]
    generalize K n / 1000 = H at *
    by_cases c1 : fhF H (d + 1) = fhF h (d + 1)
    · rw [if_pos (u1 c1), if_pos c1, if_neg (fun z => s3 (c1.symm.trans z))]; omega
    · by_cases c2 : fhF H (d + 1) = fhF (sbF h (d + 1)) (d + 1)
      · rw [if_pos ((u2 c2).trans s2), if_neg c1, if_pos c2]; omega
      · rw [if_neg (fun z => (h2 z).elim c1 c2), if_neg c1, if_neg c2]; omega
theorem cw_mono {K : Nat → Nat} {n h d : Nat} (hh : h < 64) (hd : d < 6) (he : ∀ k, k < n → K k < 64000) : cwF K n h (d + 1) ≤ cwF K n h d := by
  have := cw_two hh hd n he
  omega
theorem cw_6 {K : Nat → Nat} {n h : Nat} (hh : h < 64) (he : ∀ k, k < n → K k < 64000) : ∀ k d, d + k = 6 → cwF K n h 6 ≤ cwF K n h d
  | 0, d, e => by rw [show d = 6 by omega]; exact Nat.le_refl _
  | k + 1, d, e => Nat.le_trans (cw_6 hh he k (d + 1) (by omega)) (cw_mono hh (by omega) he)
/-- leaves that hold no more than four, but the deepest -/
def LfS (K : Nat → Nat) (n : Nat) (f : Nat → Nat) : Prop := ∀ h, h < 64 → f h < 6 → cwF K n h (f h) ≤ 4
theorem spF_ok {K : Nat → Nat} {n9 H m : Nat} {big : Nat → Bool} (hH : H < 64) (he : ∀ k, k < n9 → K k < 64000) (hb : ∀ e, e < 7 → big e = decide (4 < cwF K n9 H e)) (h1 : ∀ e, e < 7 → 1 ≤ cwF K n9 H e) : ∀ k d f n, d + k = 6 → TD f → f H = d → lcF f 64 + m = 1 + n → (d < 6 → cwF K n9 H d ≤ 5) → (∀ x, x < 64 → fhF x d ≠ fhF H d → f x < 6 → cwF K n9 x (f x) ≤ 4) →
    TD (spF big H k d (f, n)).1 ∧ lcF (spF big H k d (f, n)).1 64 + m = 1 + (spF big H k d (f, n)).2 ∧ (spF big H k d (f, n)).2 ≤ n + k ∧ LfS K n9 (spF big H k d (f, n)).1
  | 0, d, f, n, hd, hT, hf, hl, _, ho => by
    refine ⟨hT, hl, Nat.le_refl n, fun x hx h6 => ?_⟩
    show cwF K n9 x (f x) ≤ 4
    have h6 : f x < 6 := h6
    by_cases c : fhF x d = fhF H d
    · have := TD_leaf hT hH hf x hx c
      omega
    · exact ho x hx c h6
  | k + 1, d, f, n, hd, hT, hf, hl, h5, ho => by
    unfold spF
    rw [hb d (by omega)]
    by_cases c : 4 < cwF K n9 H d
    · rw [if_pos (decide_eq_true c)]
      have hi : fhF H d ≤ H ∧ H < lhF H d + 1 := by have := fh_le hH (show d < 7 by omega); omega
      have hl2 := lc_split hT hH (show d < 6 by omega) hf
      have ht := cw_two (K := K) hH (show d < 6 by omega) n9 he
      have hg1 := h1 (d + 1) (by omega)
      have hg5 := h5 (by omega)
      have r := spF_ok (m := m) (big := big) hH he hb h1 k (d + 1) (seF f (fhF H d) (lhF H d + 1) (d + 1)) (n + 1) (by omega) (TD_split hT hH (by omega) hf) (by rw [seF_v, if_pos hi]) (by omega) (fun _ => by omega) (fun x hx hn h6 => by
        rw [seF_v] at h6 ⊢
        by_cases cx : fhF H d ≤ x ∧ x < lhF H d + 1
        · rw [if_pos cx]
          have hbx := (bl_in hH (by omega) hx).mp cx
          rcases bl_two hH (by omega) hx hbx with z | z
          · exact absurd z hn
          · rw [cw_same z]; omega
        · rw [if_neg cx] at h6 ⊢
          exact ho x hx (fun z => cx ((bl_in hH (by omega) hx).mpr z)) h6)
      exact ⟨r.1, r.2.1, Nat.le_trans r.2.2.1 (by omega), r.2.2.2⟩
    · rw [if_neg (by rw [decide_eq_false c]; decide)]
      refine ⟨hT, hl, by show n ≤ n + (k + 1); omega, fun x hx h6 => ?_⟩
      show cwF K n9 x (f x) ≤ 4
      have h6 : f x < 6 := h6
      by_cases cx : fhF x d = fhF H d
      · rw [TD_leaf hT hH hf x hx cx, cw_same cx]; omega
      · exact ho x hx cx h6
theorem mgF_ok {K : Nat → Nat} {n9 H m : Nat} {small : Nat → Bool} (hH : H < 64) (he : ∀ k, k < n9 → K k < 64000) (hb : ∀ e, e < 7 → small e = decide (cwF K n9 H e ≤ 2)) : ∀ d f n, d < 7 → TD f → f H = d → lcF f 64 + n = m → LfS K n9 f →
    TD (mgF small H d (f, n)).1 ∧ lcF (mgF small H d (f, n)).1 64 + (mgF small H d (f, n)).2 = m ∧ (mgF small H d (f, n)).2 ≤ n + d ∧ LfS K n9 (mgF small H d (f, n)).1 ∧
    ((mgF small H d (f, n)).1 H = 0 ∨ (mgF small H d (f, n)).1 (sbF H ((mgF small H d (f, n)).1 H)) ≠ (mgF small H d (f, n)).1 H ∨ 2 < cwF K n9 H ((mgF small H d (f, n)).1 H - 1))
  | 0, f, n, _, hT, hf, hl, hL => ⟨hT, hl, Nat.le_refl n, hL, .inl hf⟩
  | d + 1, f, n, hd, hT, hf, hl, hL => by
    unfold mgF
    rw [hb d (by omega)]
    by_cases c : f (sbF H (d + 1)) = d + 1 ∧ cwF K n9 H d ≤ 2
    · rw [if_pos ⟨c.1, decide_eq_true c.2⟩]
      have hi : fhF H d ≤ H ∧ H < lhF H d + 1 := by have := fh_le hH (show d < 7 by omega); omega
      have hl2 := lc_merge hT hH (show d < 6 by omega) hf c.1
      have r := mgF_ok (m := m) (small := small) hH he hb d (seF f (fhF H d) (lhF H d + 1) d) (n + 1) (by omega) (TD_merge hT hH (by omega) hf c.1) (by rw [seF_v, if_pos hi]) (by omega) (fun x hx h6 => by
        rw [seF_v] at h6 ⊢
        by_cases cx : fhF H d ≤ x ∧ x < lhF H d + 1
        · rw [if_pos cx]
          rw [cw_same ((bl_in hH (by omega) hx).mp cx)]
          omega
        · rw [if_neg cx] at h6 ⊢
          exact hL x hx h6)
      exact ⟨r.1, r.2.1, Nat.le_trans r.2.2.1 (by omega), r.2.2.2⟩
    · rw [if_neg (fun z => c ⟨z.1, of_decide_eq_true z.2⟩)]
      refine ⟨hT, hl, by show n ≤ n + (d + 1); omega, hL, .inr ?_⟩
      show f (sbF H (f H)) ≠ f H ∨ 2 < cwF K n9 H (f H - 1)
      rw [hf, show d + 1 - 1 = d by omega]
      by_cases c1 : f (sbF H (d + 1)) = d + 1
      · right
        rcases Nat.lt_or_ge 2 (cwF K n9 H d) with z | z
        · exact z
        · exact absurd ⟨c1, z⟩ c
      · exact .inl c1
