/-! plain numbers for the reference, writes -/
def mpF (g : Nat → Int) (key : Int) : Nat → Nat
  | 0 => 0
  | k + 1 => if key < mK g k then mpF g key k else k + 1
theorem mpF_stop {g : Nat → Int} {key : Int} {k : Nat} (hk : 0 < k) (h : mK g (k - 1) ≤ key) : mpF g key k = k := by
  obtain ⟨j, rfl⟩ : ∃ j, k = j + 1 := ⟨k - 1, by omega⟩
  have h : mK g j ≤ key := h
  unfold mpF
  rw [if_neg (by omega)]
theorem mpF_next {g : Nat → Int} {key : Int} {k : Nat} (hk : 0 < k) (h : key < mK g (k - 1)) : mpF g key k = mpF g key (k - 1) := by
  obtain ⟨j, rfl⟩ : ∃ j, k = j + 1 := ⟨k - 1, by omega⟩
  have h : key < mK g j := h
  show (if key < mK g j then mpF g key j else j + 1) = mpF g key j
  rw [if_pos h]
theorem mpF_le (g : Nat → Int) (key : Int) : ∀ k, mpF g key k ≤ k
  | 0 => Nat.le_refl 0
  | k + 1 => by
    have := mpF_le g key k
    unfold mpF
    split <;> omega
def mhF (g : Nat → Int) (u cnt : Nat) : Nat → Int := fun j => if 81 + u ≤ j ∧ j < 81 + 9 * cnt then g (j - 9) else g j
theorem mhF_0 (g : Nat → Int) (cnt : Nat) : g = mhF g (9 * cnt) cnt := by
  funext j
  unfold mhF
  rw [if_neg (by omega)]
theorem mhF_s (g : Nat → Int) {u cnt : Nat} (hu : 0 < u) (hu2 : u ≤ 9 * cnt) : zU (mhF g u cnt) (72 + (u - 1) + 9) (mhF g u cnt (72 + (u - 1))) = mhF g (u - 1) cnt := by
  funext j
  unfold zU mhF
  by_cases hj : j = 72 + (u - 1) + 9
  · subst hj
    rw [if_pos rfl, if_neg (by omega), if_pos (by omega)]
    congr 1
  · rw [if_neg hj]
    by_cases h2 : 81 + u ≤ j ∧ j < 81 + 9 * cnt
    · rw [if_pos h2, if_pos (by omega)]
    · rw [if_neg h2, if_neg (by omega)]
/-- room made, the id, the hash and the length written -/
def mhW (g : Nat → Int) (h z cnt pl : Nat) : Nat → Int := zU (zU (zU (mhF g (9 * pl) cnt) (72 + 9 * pl + 0) (g 1)) (72 + 9 * pl + 1) ((h : Nat) : Int)) (72 + 9 * pl + 2) ((z : Nat) : Int)
def mlF (G : Nat → Int) (b : Nat) (tx : Nat → Nat) (a z q : Nat) : Nat → Int := fun j => if b + 3 ≤ j ∧ j < b + 3 + q then (if j - (b + 3) < z then ((tx (a + (j - (b + 3))) : Nat) : Int) else 0) else G j
theorem mlF_0 (G : Nat → Int) (b : Nat) (tx : Nat → Nat) (a z : Nat) : G = mlF G b tx a z 0 := by
  funext j
  unfold mlF
  rw [if_neg (by omega)]
theorem mlF_s1 (G : Nat → Int) (b : Nat) (tx : Nat → Nat) (a : Nat) {z q : Nat} (h : q < z) : zU (mlF G b tx a z q) (b + 3 + q) ((tx (a + q) : Nat) : Int) = mlF G b tx a z (q + 1) := by
  funext j
  unfold zU mlF
  by_cases hj : j = b + 3 + q
  · subst hj
    rw [if_pos rfl, if_pos (by omega), if_pos (by omega), show a + (b + 3 + q - (b + 3)) = a + q by omega]
  · rw [if_neg hj]
    by_cases h2 : b + 3 ≤ j ∧ j < b + 3 + q
    · rw [if_pos h2, if_pos (show b + 3 ≤ j ∧ j < b + 3 + (q + 1) by omega)]
    · rw [if_neg h2, if_neg (by omega)]
theorem mlF_s2 (G : Nat → Int) (b : Nat) (tx : Nat → Nat) (a : Nat) {z q : Nat} (h : z ≤ q) : zU (mlF G b tx a z q) (b + 3 + q) 0 = mlF G b tx a z (q + 1) := by
  funext j
  unfold zU mlF
  by_cases hj : j = b + 3 + q
  · subst hj
    rw [if_pos rfl, if_pos (by omega), if_neg (by omega)]
  · rw [if_neg hj]
    by_cases h2 : b + 3 ≤ j ∧ j < b + 3 + q
    · rw [if_pos h2, if_pos (show b + 3 ≤ j ∧ j < b + 3 + (q + 1) by omega)]
    · rw [if_neg h2, if_neg (by omega)]
def mkE (g : Nat → Int) (tx : Nat → Nat) (a z cnt pl : Nat) : Nat → Int := mlF (mhW g (hhF tx a z) z cnt pl) (72 + 9 * pl) tx a z 6
theorem mkE_lo (g : Nat → Int) (tx : Nat → Nat) (a z cnt pl : Nat) {j : Nat} (h : j < 72) : mkE g tx a z cnt pl j = g j := by
  unfold mkE mlF mhW mhF
  rw [if_neg (by omega), zU_n _ _ (by omega), zU_n _ _ (by omega), zU_n _ _ (by omega), if_neg (by omega)]
def mkG (g : Nat → Int) (tx : Nat → Nat) (a z cnt pl : Nat) : Nat → Int := zU (zU (mkE g tx a z cnt pl) 0 ((cnt + 1 : Nat) : Int)) 1 (g 1 + 1)
theorem mkG_0 (g : Nat → Int) (tx : Nat → Nat) (a z cnt pl : Nat) : mkG g tx a z cnt pl 0 = ((cnt + 1 : Nat) : Int) := by
  unfold mkG
  rw [zU_n _ _ (by omega), zU_s]
theorem mkG_lo (g : Nat → Int) (tx : Nat → Nat) (a z cnt pl : Nat) {j : Nat} (h : j < 72) (h2 : 2 ≤ j) : mkG g tx a z cnt pl j = g j := by
  unfold mkG
  rw [zU_n _ _ (by omega), zU_n _ _ (by omega)]
  exact mkE_lo g tx a z cnt pl h
theorem mkG_hi (g : Nat → Int) (tx : Nat → Nat) (a z cnt pl : Nat) {j : Nat} (h2 : 2 ≤ j) : mkG g tx a z cnt pl j = mkE g tx a z cnt pl j := by
  unfold mkG
  rw [zU_n _ _ (by omega), zU_n _ _ (by omega)]
/-- the new row by its places -/
theorem mkG_I (g : Nat → Int) (tx : Nat → Nat) (a z cnt pl : Nat) {k w : Nat} (hw : w < 9) : mI (mkG g tx a z cnt pl) k w = if k < pl then mI g k w else if k = pl then (if w = 0 then g 1 else if w = 1 then ((hhF tx a z : Nat) : Int) else if w = 2 then ((z : Nat) : Int) else if w - 3 < z then ((tx (a + (w - 3)) : Nat) : Int) else 0) else if k ≤ cnt then mI g (k - 1) w else mI g k w := by
  unfold mI
  rw [mkG_hi _ _ _ _ _ _ (by omega)]
  unfold mkE mlF mhW
  by_cases h1 : k < pl
  · rw [if_pos h1, if_neg (by omega), zU_n _ _ (by omega), zU_n _ _ (by omega), zU_n _ _ (by omega)]
    unfold mhF
    rw [if_neg (by omega)]
  · rw [if_neg h1]
    by_cases h2 : k = pl
    · subst h2
      rw [if_pos rfl]
      by_cases hw0 : w = 0
      · subst hw0
        rw [if_pos rfl, if_neg (by omega), zU_n _ _ (by omega), zU_n _ _ (by omega), zU_s]
      · rw [if_neg hw0]
        by_cases hw1 : w = 1
        · subst hw1
          rw [if_pos rfl, if_neg (by omega), zU_n _ _ (by omega), zU_s]
        · rw [if_neg hw1]
          by_cases hw2 : w = 2
          · subst hw2
            rw [if_pos rfl, if_neg (by omega), zU_s]
          · rw [if_neg hw2, if_pos (by omega), show 72 + 9 * k + w - (72 + 9 * k + 3) = w - 3 by omega]
    · rw [if_neg h2, if_neg (by omega), zU_n _ _ (by omega), zU_n _ _ (by omega), zU_n _ _ (by omega)]
      unfold mhF
      by_cases h3 : k ≤ cnt
      · rw [if_pos h3, if_pos (by omega), show 72 + 9 * k + w - 9 = 72 + 9 * (k - 1) + w by omega]
      · rw [if_neg h3, if_neg (by omega)]
theorem row_ex {j : Nat} (h : 72 ≤ j) (h2 : j < 432) : ∃ k w, k < 40 ∧ w < 9 ∧ j = 72 + 9 * k + w := ⟨(j - 72) / 9, (j - 72) % 9, by omega, by omega, by omega⟩
theorem mkG_rg {g : Nat → Int} {tx : Nat → Nat} {a z cnt pl : Nat} (hg : ∀ k, k < 432 → -2 ≤ g k ∧ g k < 70000) (ht : ∀ j, j < 80 → tx j < 128) (hc : cnt < 40) (hp : pl ≤ cnt) (h1 : 0 ≤ g 1 ∧ g 1 < 1000) (haz : a + z ≤ 80) (hz : z ≤ 6) : ∀ k, k < 432 → -2 ≤ mkG g tx a z cnt pl k ∧ mkG g tx a z cnt pl k < 70000 := by
  intro j hj
  by_cases h72 : j < 72
  · by_cases h2 : 2 ≤ j
    · rw [mkG_lo _ _ _ _ _ _ h72 h2]; exact hg j hj
    · have : j = 0 ∨ j = 1 := by omega
      rcases this with rfl | rfl
      · rw [mkG_0]; omega
      · unfold mkG
        rw [zU_s]
        omega
  · obtain ⟨k, w, hk, hw, rfl⟩ := row_ex (Nat.le_of_not_lt h72) hj
    have := mkG_I g tx a z cnt pl (k := k) hw
    have hh := hhF_lt tx a z
    unfold mI at this
    rw [this]
    split
    · exact hg _ (by omega)
    · split
      · split
        · omega
        · split
          · omega
          · split
            · omega
            · split
              · have := ht (a + (w - 3)) (by omega); omega
              · omega
      · split
        · exact hg _ (by omega)
        · exact hg _ (by omega)
theorem mkG_hs {g : Nat → Int} {tx : Nat → Nat} {a z cnt pl : Nat} (hs : ∀ k, k < 40 → 0 ≤ mI g k 1 ∧ mI g k 1 < 64) (hc : cnt < 40) (hp : pl ≤ cnt) (hh : hhF tx a z < 64) : ∀ k, k < 40 → 0 ≤ mI (mkG g tx a z cnt pl) k 1 ∧ mI (mkG g tx a z cnt pl) k 1 < 64 := by
  intro k hk
  rw [mkG_I g tx a z cnt pl (by decide)]
  split
  · exact hs k hk
  · split
    · rw [if_neg (by decide), if_pos rfl]; omega
    · split
      · exact hs _ (by omega)
      · exact hs k hk
def mkR (g : Nat → Int) (tx : Nat → Nat) (a z cnt : Nat) : Nat → Int := msF (hhF tx a z) (cnt + 1) (6 - dpF (mkG g tx a z cnt (mpF g (1000 * ((hhF tx a z : Nat) : Int) + g 1) cnt)) (hhF tx a z) 6 0) (dpF (mkG g tx a z cnt (mpF g (1000 * ((hhF tx a z : Nat) : Int) + g 1) cnt)) (hhF tx a z) 6 0) (mkG g tx a z cnt (mpF g (1000 * ((hhF tx a z : Nat) : Int) + g 1) cnt))
def mtF (g : Nat → Int) (cnt k u : Nat) : Nat → Int := fun j => if j = 0 then ((cnt - 1 : Nat) : Int) else if 72 + 9 * k ≤ j ∧ j < 72 + u then g (j + 9) else g j
theorem mtF_0 (g : Nat → Int) (cnt k : Nat) : zU g 0 ((cnt - 1 : Nat) : Int) = mtF g cnt k (9 * k) := by
  funext j
  unfold zU mtF
  by_cases hj : j = 0
  · rw [if_pos hj, if_pos hj]
  · rw [if_neg hj, if_neg hj, if_neg (by omega)]
theorem mtF_s (g : Nat → Int) (cnt : Nat) {k u : Nat} (h : 9 * k ≤ u) : zU (mtF g cnt k u) (72 + u) (mtF g cnt k u (72 + u + 9)) = mtF g cnt k (u + 1) := by
  funext j
  unfold zU mtF
  by_cases hj : j = 72 + u
  · subst hj
    rw [if_pos rfl, if_neg (by omega), if_neg (by omega), if_neg (by omega), if_pos (by omega)]
  · rw [if_neg hj]
    by_cases h0 : j = 0
    · rw [if_pos h0, if_pos h0]
    · rw [if_neg h0, if_neg h0]
      by_cases h2 : 72 + 9 * k ≤ j ∧ j < 72 + u
      · rw [if_pos h2, if_pos (show 72 + 9 * k ≤ j ∧ j < 72 + (u + 1) by omega)]
      · rw [if_neg h2, if_neg (by omega)]
theorem mtF_z (g : Nat → Int) (cnt k u : Nat) : mtF g cnt k u 0 = ((cnt - 1 : Nat) : Int) := if_pos rfl
theorem mtF_lo (g : Nat → Int) (cnt k u : Nat) {j : Nat} (h : j < 72) (h0 : 0 < j) : mtF g cnt k u j = g j := by
  unfold mtF
  rw [if_neg (by omega), if_neg (by omega)]
theorem mtF_I (g : Nat → Int) (cnt k : Nat) {i w : Nat} (hw : w < 9) : mI (mtF g cnt k (9 * (cnt - 1))) i w = if k ≤ i ∧ i < cnt - 1 then mI g (i + 1) w else mI g i w := by
  unfold mI mtF
  rw [if_neg (by omega)]
  by_cases h : k ≤ i ∧ i < cnt - 1
  · rw [if_pos h, if_pos (by omega), show 72 + 9 * i + w + 9 = 72 + 9 * (i + 1) + w by omega]
  · rw [if_neg h, if_neg (by omega)]
theorem mtF_rg {g : Nat → Int} {cnt k : Nat} (hg : ∀ k, k < 432 → -2 ≤ g k ∧ g k < 70000) (hc : cnt ≤ 40) : ∀ j, j < 432 → -2 ≤ mtF g cnt k (9 * (cnt - 1)) j ∧ mtF g cnt k (9 * (cnt - 1)) j < 70000 := by
  intro j hj
  unfold mtF
  split
  · omega
  · split
    · exact hg _ (by omega)
    · exact hg j hj
theorem mtF_hs {g : Nat → Int} {cnt k : Nat} (hs : ∀ k, k < 40 → 0 ≤ mI g k 1 ∧ mI g k 1 < 64) (hc : cnt ≤ 40) : ∀ i, i < 40 → 0 ≤ mI (mtF g cnt k (9 * (cnt - 1))) i 1 ∧ mI (mtF g cnt k (9 * (cnt - 1))) i 1 < 64 := by
  intro i hi
  rw [mtF_I g cnt k (by decide)]
  split
  · exact hs _ (by omega)
  · exact hs i hi
def mtR (g : Nat → Int) (cnt k : Nat) : Nat → Int := mgM (mI g k 1).toNat (cnt - 1) (dpF (mtF g cnt k (9 * (cnt - 1))) (mI g k 1).toNat 6 0) (mtF g cnt k (9 * (cnt - 1)))
def cpF (g : Nat → Int) (f t i : Nat) : Nat → Int := fun j => if 432 * t ≤ j ∧ j < 432 * t + i then g (432 * f + (j - 432 * t)) else g j
theorem cpF_0 (g : Nat → Int) (f t : Nat) : g = cpF g f t 0 := by
  funext j
  unfold cpF
  rw [if_neg (by omega)]
theorem cpF_s (g : Nat → Int) {f t i : Nat} (hf : f < 9) (ht : t < 9) (hi : i < 432) (hft : f ≠ t) : zU (cpF g f t i) (432 * t + i) (cpF g f t i (432 * f + i)) = cpF g f t (i + 1) := by
  funext j
  unfold zU cpF
  by_cases hj : j = 432 * t + i
  · subst hj
    rw [if_pos rfl, if_neg (by omega), if_pos (by omega), show 432 * t + i - 432 * t = i by omega]
  · rw [if_neg hj]
    by_cases h2 : 432 * t ≤ j ∧ j < 432 * t + i
    · rw [if_pos h2, if_pos (show 432 * t ≤ j ∧ j < 432 * t + (i + 1) by omega)]
    · rw [if_neg h2, if_neg (by omega)]
/-- the saved rows moved down by one -/
def kpL (g : Nat → Int) : Nat → Nat → Int
  | 0 => g
  | n + 1 => cpF (kpL g n) (n + 2) (n + 1) 432
theorem kpL_s (g : Nat → Int) {i : Nat} (h : 1 ≤ i) : cpF (kpL g (i - 1)) (i + 1) i 432 = kpL g (i + 1 - 1) := by
  obtain ⟨j, rfl⟩ : ∃ j, i = j + 1 := ⟨i - 1, by omega⟩
  rfl
def kpS (sv : Nat) : Nat := if sv < 6 then sv + 1 else sv
def kpG (g : Nat → Int) (sv : Nat) : Nat → Int := cpF (if sv = 6 then kpL g 5 else g) 0 (kpS sv) 432
theorem kpL_lo (g : Nat → Int) : ∀ n j, j < 432 → kpL g n j = g j
  | 0, j, _ => rfl
  | n + 1, j, h => by
    show cpF (kpL g n) (n + 2) (n + 1) 432 j = g j
    unfold cpF
    rw [if_neg (by omega)]
    exact kpL_lo g n j h
theorem kpG_lo (g : Nat → Int) {sv j : Nat} (hs : sv ≤ 6) (h : j < 432) : kpG g sv j = g j := by
  unfold kpG cpF
  have : 1 ≤ kpS sv := by unfold kpS; split <;> omega
  rw [if_neg (by omega)]
  split
  · exact kpL_lo g 5 j h
  · rfl
def nmO (tx : Nat → Nat) (ln : Nat) : Prop := (1 ≤ ln ∧ ln ≤ 6) ∧ ∀ r, r < ln → 97 ≤ tx r ∧ tx r ≤ 122
theorem nmO_0 (tx : Nat → Nat) (ln q : Nat) (hq : q = 0) : decide ((1 : Int) ≤ ((ln : Nat) : Int) ∧ ((ln : Nat) : Int) ≤ 6) = decide ((1 ≤ ln ∧ ln ≤ 6) ∧ ∀ r, r < q → 97 ≤ tx r ∧ tx r ≤ 122) := by
  by_cases h : 1 ≤ ln ∧ ln ≤ 6
  · rw [decide_eq_true (show (1 : Int) ≤ ((ln : Nat) : Int) ∧ ((ln : Nat) : Int) ≤ 6 by omega), decide_eq_true (show (1 ≤ ln ∧ ln ≤ 6) ∧ ∀ r, r < q → 97 ≤ tx r ∧ tx r ≤ 122 from ⟨h, fun r hr => absurd hr (by omega)⟩)]
  · rw [decide_eq_false (show ¬ ((1 : Int) ≤ ((ln : Nat) : Int) ∧ ((ln : Nat) : Int) ≤ 6) by omega), decide_eq_false (show ¬ ((1 ≤ ln ∧ ln ≤ 6) ∧ ∀ r, r < q → 97 ≤ tx r ∧ tx r ≤ 122) from fun z => h z.1)]
theorem nmO_s {tx : Nat → Nat} {ln q : Nat} (h : decide ((1 ≤ ln ∧ ln ≤ 6) ∧ ∀ r, r < q → 97 ≤ tx r ∧ tx r ≤ 122) = true) : decide ((97 : Int) ≤ ((tx q : Nat) : Int) ∧ ((tx q : Nat) : Int) ≤ 122) = decide ((1 ≤ ln ∧ ln ≤ 6) ∧ ∀ r, r < q + 1 → 97 ≤ tx r ∧ tx r ≤ 122) := by
  have h := of_decide_eq_true h
  by_cases h2 : 97 ≤ tx q ∧ tx q ≤ 122
  · rw [decide_eq_true (show (97 : Int) ≤ ((tx q : Nat) : Int) ∧ ((tx q : Nat) : Int) ≤ 122 by omega), decide_eq_true (show (1 ≤ ln ∧ ln ≤ 6) ∧ ∀ r, r < q + 1 → 97 ≤ tx r ∧ tx r ≤ 122 from ⟨h.1, lt_succ_all h.2 h2⟩)]
  · rw [decide_eq_false (show ¬ ((97 : Int) ≤ ((tx q : Nat) : Int) ∧ ((tx q : Nat) : Int) ≤ 122) by omega), decide_eq_false (show ¬ ((1 ≤ ln ∧ ln ≤ 6) ∧ ∀ r, r < q + 1 → 97 ≤ tx r ∧ tx r ≤ 122) from fun z => h2 (z.2 q (Nat.lt_succ_self q)))]
theorem nmO_f {tx : Nat → Nat} {ln q : Nat} (h : decide ((1 ≤ ln ∧ ln ≤ 6) ∧ ∀ r, r < q → 97 ≤ tx r ∧ tx r ≤ 122) = false) (hq : q ≤ ln) : ¬ ((1 ≤ ln ∧ ln ≤ 6) ∧ ∀ r, r < ln → 97 ≤ tx r ∧ tx r ≤ 122) :=
  fun z => of_decide_eq_false h ⟨z.1, fun r hr => z.2 r (by omega)⟩
def npF (g : Nat → Int) (r cnt : Nat) : Nat := fiF (fun j => decide (g (4 + r) < mK g j)) cnt
theorem npF_eq {g : Nat → Int} {r cnt k : Nat} (h1 : k ≤ cnt) (h2 : ∀ j, j < k → mK g j ≤ g (4 + r)) (h3 : k < cnt → g (4 + r) < mK g k) : npF g r cnt = k :=
  fiF_eq (p := fun j => decide (g (4 + r) < mK g j)) h1 (fun j hj => decide_eq_false (by have := h2 j hj; omega)) (fun h => decide_eq_true (h3 h))
theorem zin_X7_makes_X7 : ∀ w ∈ wsX70, w ∈ wsX7_makes := by decide +kernel
theorem zlk_X7_makes_7 : Cond.fieldLink RX7 7 "HashedDirectoryModel" "s" "[I" ∈ wsX7_makes := by decide +kernel
theorem zlk_X7_makes_17 : Cond.fieldLink RX7 17 "HashedDirectoryModel" "text" "[I" ∈ wsX7_makes := by decide +kernel
set_option maxHeartbeats 4000000 in
set_option maxRecDepth 100000 in
theorem zc_X7_makes (l : Launch) (D : va_G) (ct : zCT) (h0 : Nat) (aS : Nat) (aF : Nat) (aX : Nat) (th : Int) (sg : Int) (sv : Nat) (ln : Nat) (ta : Nat) (f1 : Nat) (l1 : Nat) (f2 : Nat) (l2 : Nat) (g : Nat → Int) (tx : Nat → Nat) (cnt : Nat) (a : Nat) (z : Nat) (hcn : g 0 = ((cnt : Nat) : Int)) (hc : cnt < 40) (hg : ∀ k, k < 432 → -2 ≤ g k ∧ g k < 70000) (hhs : ∀ k, k < 40 → 0 ≤ mI g k 1 ∧ mI g k 1 < 64) (ht : ∀ j, j < 80 → tx j < 128) (haz : a + z ≤ 80) (hz : z ≤ 6) (hw : ∀ j, j < z → 97 ≤ tx (a + j) ∧ tx (a + j) ≤ 122) (h1 : 0 ≤ g 1 ∧ g 1 < 1000) (h2 : 0 ≤ g 2 ∧ g 2 < 60000) (h3 : 0 ≤ g 3 ∧ g 3 < 60000) : zMet l yX7_makes wsX7_makes ({ frames := 3, cells := 0, slots := 0, locals := 68 } : Room) D ct [.ref h0, zi ((a : Nat) : Int), zi ((z : Nat) : Int)] [zO h0 6 [zi th, .ref aS, zi ((sv : Nat) : Int), .ref aF, .ref aX, zi ((ln : Nat) : Int), zi ((ta : Nat) : Int), zi sg, zi ((f1 : Nat) : Int), zi ((l1 : Nat) : Int), zi ((f2 : Nat) : Int), zi ((l2 : Nat) : Int)], zAI ct aS 3888 g, zAI ct aX 80 (zN tx)] (fun _ : Unit => True) (fun _ => some (zi ((g 1)))) (fun _ => [zO h0 6 [zi th, .ref aS, zi ((sv : Nat) : Int), .ref aF, .ref aX, zi ((ln : Nat) : Int), zi ((ta : Nat) : Int), zi sg, zi ((f1 : Nat) : Int), zi ((l1 : Nat) : Int), zi ((f2 : Nat) : Int), zi ((l2 : Nat) : Int)], zAI ct aS 3888 (mkR g tx a z cnt), zAI ct aX 80 (zN tx)]) 0 0 := by
  refine zMet_i (cc := cX7_makes) (maxL := 8) (r := fun _ => (g 1)) (by decide) rfl (Nat.le_of_ble_eq_true rfl) ?_
  intro p e s m below meth c A Q Z hnm hR
  refine z_eqs _ [(0, .ref h0), (1, zi ((a : Nat) : Int)), (2, zi ((z : Nat) : Int))] _ rfl rfl rfl ?_
  have hl9 := hhF_lt tx a z
  have hg1 := hg 1 (by omega)
  refine z_aload_n Z dX7_makes_0 0 rfl ?_
  refine z_get Z dX7_makes_1 zin_X7_makes_X7 0 1 rfl rfl (by decide) zlk_X7_makes_7 rfl ?_
  refine z_iconst (v := 1) Z dX7_makes_4 rfl ?_
  refine z_iald Z dX7_makes_5 1 (1) rfl (by omega) ⟨by omega, by omega⟩ ?_
  have he1 := hg (1) (by omega)
  refine z_istore_n Z dX7_makes_6 [(3, zi (g 1)), (0, .ref h0), (1, zi ((a : Nat) : Int)), (2, zi ((z : Nat) : Int))] (by decide) rfl ?_
  refine z_aload_n Z dX7_makes_7 1 rfl ?_
  refine z_iload_n Z dX7_makes_8 2 rfl ?_
  refine z_iload_n Z dX7_makes_9 3 rfl ?_
  refine z_callVu (rest := []) Z dX7_makes_10 6 0 _ _ rfl rfl rfl (zc_X7_hashOfName l D ct (h0) (aS) (aF) (aX) (th) (sg) (sv) (ln) (ta) (f1) (l1) (f2) (l2) (tx) (a) (z) (by first | assumption | omega) (by first | assumption | omega) (by first | assumption | omega) (by first | assumption | omega)) (cwV 2 Z.1.2.2.2.2 gX7_makes_X7_hashOfName rfl rfl rfl (by decide +kernel) ⟨Nat.le_of_ble_eq_true rfl, Nat.le_of_ble_eq_true rfl⟩) rfl (Nat.le_of_ble_eq_true rfl) ⟨Nat.le_of_ble_eq_true rfl, Nat.le_of_ble_eq_true rfl⟩ [true, false, true] [zO h0 6 [zi th, .ref aS, zi ((sv : Nat) : Int), .ref aF, .ref aX, zi ((ln : Nat) : Int), zi ((ta : Nat) : Int), zi sg, zi ((f1 : Nat) : Int), zi ((l1 : Nat) : Int), zi ((f2 : Nat) : Int), zi ((l2 : Nat) : Int)], zAI ct aS 3888 g, zAI ct aX 80 (zN tx)] [zi ((hhF tx a z : Nat) : Int)] rfl rfl rfl rfl ?_
  refine z_istore Z dX7_makes_13 [(4, zi ((hhF tx a z : Nat) : Int)), (3, zi (g 1)), (0, .ref h0), (1, zi ((a : Nat) : Int)), (2, zi ((z : Nat) : Int))] (by decide) rfl ?_
  refine z_aload_n Z dX7_makes_15 2 rfl ?_
  refine z_get Z dX7_makes_16 zin_X7_makes_X7 0 1 rfl rfl (by decide) zlk_X7_makes_7 rfl ?_
  refine z_iconst (v := 0) Z dX7_makes_19 rfl ?_
  refine z_iald Z dX7_makes_20 1 (0) rfl (by omega) ⟨by omega, by omega⟩ ?_
  have he2 := hg (0) (by omega)
  refine z_top (y := ((cnt : Nat) : Int)) (hcn.symm) ?_
  refine z_istore Z dX7_makes_21 [(5, zi ((cnt : Nat) : Int)), (4, zi ((hhF tx a z : Nat) : Int)), (3, zi (g 1)), (0, .ref h0), (1, zi ((a : Nat) : Int)), (2, zi ((z : Nat) : Int))] (by decide) rfl ?_
  refine z_lsub [3, 4, 5, 2, 1, 0] [(0, .ref h0), (1, zi ((a : Nat) : Int)), (2, zi ((z : Nat) : Int)), (3, zi (g 1)), (4, zi ((hhF tx a z : Nat) : Int)), (5, zi ((cnt : Nat) : Int))] rfl ?_
  have LOOP23 : ∀ (N0 : Nat) (pl : Nat) (x5 : Int), pl + 1 < N0 → x5 = ((pl : Nat) : Int) → (pl ≤ cnt) → (mpF g (1000 * ((hhF tx a z : Nat) : Int) + g 1) pl = mpF g (1000 * ((hhF tx a z : Nat) : Int) + g 1) cnt) → zW p l e ({ frames := 3, cells := 0, slots := 0, locals := 68 } : Room) s m ([.ref h0, zi ((a : Nat) : Int), zi ((z : Nat) : Int)] : List Value).toArray below meth c D A 8 Q 0 0 [zO h0 6 [zi th, .ref aS, zi ((sv : Nat) : Int), .ref aF, .ref aX, zi ((ln : Nat) : Int), zi ((ta : Nat) : Int), zi sg, zi ((f1 : Nat) : Int), zi ((l1 : Nat) : Int), zi ((f2 : Nat) : Int), zi ((l2 : Nat) : Int)], zAI ct aS 3888 g, zAI ct aX 80 (zN tx)] [(0, .ref h0), (1, zi ((a : Nat) : Int)), (2, zi ((z : Nat) : Int)), (3, zi (g 1)), (4, zi ((hhF tx a z : Nat) : Int)), (5, zi x5)] 23 [] := by
    intro N0
    induction N0 with
    | zero => intro pl x5 hm0; exact absurd hm0 (Nat.not_lt_zero _)
    | succ N0 ih0 =>
      intro pl x5 hm0 ex5 hp hpe
      subst ex5
      refine z_iload Z dX7_makes_23 5 rfl ?_
      refine z_if_le Z 53 dX7_makes_25 (by decide) (by omega) (fun h25 => ?_) (fun h25 => ?_)
      · have hz9 : mpF g (1000 * ((hhF tx a z : Nat) : Int) + g 1) cnt = pl := by rw [← hpe, show pl = 0 from by omega]; rfl
        refine z_bipush (v := 9) Z dX7_makes_53 (by decide +kernel) ?_
        refine z_aload_n Z dX7_makes_55 0 rfl ?_
        refine z_get Z dX7_makes_56 zin_X7_makes_X7 0 1 rfl rfl (by decide) zlk_X7_makes_7 rfl ?_
        refine z_iconst (v := 0) Z dX7_makes_59 rfl ?_
        refine z_iald Z dX7_makes_60 1 (0) rfl (by omega) ⟨by omega, by omega⟩ ?_
        have he3 := hg (0) (by omega)
        refine z_top (y := ((cnt : Nat) : Int)) (hcn.symm) ?_
        refine z_imul Z dX7_makes_61 ?_
        refine z_top (y := ((9 * cnt : Nat) : Int)) (by omega) ?_
        refine z_iconst (v := 1) Z dX7_makes_62 rfl ?_
        refine z_isub Z dX7_makes_63 ?_
        refine z_istore Z dX7_makes_64 [(6, zi (((9 * cnt : Nat) : Int) - 1)), (0, .ref h0), (1, zi ((a : Nat) : Int)), (2, zi ((z : Nat) : Int)), (3, zi (g 1)), (4, zi ((hhF tx a z : Nat) : Int)), (5, zi ((pl : Nat) : Int))] (by decide) rfl ?_
        refine z_lsub [1, 2, 3, 4, 5, 6, 0] [(0, .ref h0), (1, zi ((a : Nat) : Int)), (2, zi ((z : Nat) : Int)), (3, zi (g 1)), (4, zi ((hhF tx a z : Nat) : Int)), (5, zi ((pl : Nat) : Int)), (6, zi (((9 * cnt : Nat) : Int) - 1))] rfl ?_
        have LOOP66 : ∀ (N1 : Nat) (u : Nat) (x6 : Int) (y1g : Nat → Int), u + 1 < N1 → x6 = (((u : Nat) : Int) - 1) → y1g = mhF g u cnt → (9 * pl ≤ u) → (u ≤ 9 * cnt) → zW p l e ({ frames := 3, cells := 0, slots := 0, locals := 68 } : Room) s m ([.ref h0, zi ((a : Nat) : Int), zi ((z : Nat) : Int)] : List Value).toArray below meth c D A 8 Q 0 0 [zO h0 6 [zi th, .ref aS, zi ((sv : Nat) : Int), .ref aF, .ref aX, zi ((ln : Nat) : Int), zi ((ta : Nat) : Int), zi sg, zi ((f1 : Nat) : Int), zi ((l1 : Nat) : Int), zi ((f2 : Nat) : Int), zi ((l2 : Nat) : Int)], zAI ct aS 3888 y1g, zAI ct aX 80 (zN tx)] [(0, .ref h0), (1, zi ((a : Nat) : Int)), (2, zi ((z : Nat) : Int)), (3, zi (g 1)), (4, zi ((hhF tx a z : Nat) : Int)), (5, zi ((pl : Nat) : Int)), (6, zi x6)] 66 [] := by
          intro N1
          induction N1 with
          | zero => intro u x6 y1g hm1; exact absurd hm1 (Nat.not_lt_zero _)
          | succ N1 ih1 =>
            intro u x6 y1g hm1 ex6 ey1g hu hu2
            subst ex6
            subst ey1g
            refine z_iload Z dX7_makes_66 6 rfl ?_
            refine z_bipush (v := 9) Z dX7_makes_68 (by decide +kernel) ?_
            refine z_iload Z dX7_makes_70 5 rfl ?_
            refine z_imul Z dX7_makes_72 ?_
            refine z_top (y := ((9 * pl : Nat) : Int)) (by omega) ?_
            refine z_icmp_lt Z 105 dX7_makes_73 (by decide) (by omega) (by omega) (fun h73 => ?_) (fun h73 => ?_)
            · refine z_eqs [zO h0 6 [zi th, .ref aS, zi ((sv : Nat) : Int), .ref aF, .ref aX, zi ((ln : Nat) : Int), zi ((ta : Nat) : Int), zi sg, zi ((f1 : Nat) : Int), zi ((l1 : Nat) : Int), zi ((f2 : Nat) : Int), zi ((l2 : Nat) : Int)], zAI ct aS 3888 (mhF g (9 * pl) cnt), zAI ct aX 80 (zN tx)] _ _ (by rw [show u = 9 * pl from by omega]) rfl rfl ?_
              refine z_bipush (v := 72) Z dX7_makes_105 (by decide +kernel) ?_
              refine z_bipush (v := 9) Z dX7_makes_107 (by decide +kernel) ?_
              refine z_iload Z dX7_makes_109 5 rfl ?_
              refine z_imul Z dX7_makes_111 ?_
              refine z_top (y := ((9 * pl : Nat) : Int)) (by omega) ?_
              refine z_iadd Z dX7_makes_112 ?_
              refine z_top (y := ((72 + (9 * pl) : Nat) : Int)) (by omega) ?_
              refine z_istore Z dX7_makes_113 [(6, zi ((72 + (9 * pl) : Nat) : Int)), (0, .ref h0), (1, zi ((a : Nat) : Int)), (2, zi ((z : Nat) : Int)), (3, zi (g 1)), (4, zi ((hhF tx a z : Nat) : Int)), (5, zi ((pl : Nat) : Int))] (by decide) rfl ?_
              refine z_aload_n Z dX7_makes_115 1 rfl ?_
              refine z_get Z dX7_makes_116 zin_X7_makes_X7 0 1 rfl rfl (by decide) zlk_X7_makes_7 rfl ?_
              refine z_iload Z dX7_makes_119 0 rfl ?_
              refine z_iconst (v := 0) Z dX7_makes_121 rfl ?_
              refine z_iadd Z dX7_makes_122 ?_
              refine z_top (y := (((72 + (9 * pl)) + 0 : Nat) : Int)) (by omega) ?_
              refine z_iload_n Z dX7_makes_123 4 rfl ?_
              refine z_iast Z dX7_makes_124 1 ((72 + (9 * pl)) + 0) [zO h0 6 [zi th, .ref aS, zi ((sv : Nat) : Int), .ref aF, .ref aX, zi ((ln : Nat) : Int), zi ((ta : Nat) : Int), zi sg, zi ((f1 : Nat) : Int), zi ((l1 : Nat) : Int), zi ((f2 : Nat) : Int), zi ((l2 : Nat) : Int)], zAI ct aS 3888 (zU (mhF g (9 * pl) cnt) ((72 + (9 * pl)) + 0) (g 1)), zAI ct aX 80 (zN tx)] rfl (rfl) ⟨by omega, by omega⟩ rfl ?_
              refine z_aload_n Z dX7_makes_125 1 rfl ?_
              refine z_get Z dX7_makes_126 zin_X7_makes_X7 0 1 rfl rfl (by decide) zlk_X7_makes_7 rfl ?_
              refine z_iload Z dX7_makes_129 0 rfl ?_
              refine z_iconst (v := 1) Z dX7_makes_131 rfl ?_
              refine z_iadd Z dX7_makes_132 ?_
              refine z_top (y := (((72 + (9 * pl)) + 1 : Nat) : Int)) (by omega) ?_
              refine z_iload Z dX7_makes_133 5 rfl ?_
              refine z_iast Z dX7_makes_135 1 ((72 + (9 * pl)) + 1) [zO h0 6 [zi th, .ref aS, zi ((sv : Nat) : Int), .ref aF, .ref aX, zi ((ln : Nat) : Int), zi ((ta : Nat) : Int), zi sg, zi ((f1 : Nat) : Int), zi ((l1 : Nat) : Int), zi ((f2 : Nat) : Int), zi ((l2 : Nat) : Int)], zAI ct aS 3888 (zU (zU (mhF g (9 * pl) cnt) ((72 + (9 * pl)) + 0) (g 1)) ((72 + (9 * pl)) + 1) ((hhF tx a z : Nat) : Int)), zAI ct aX 80 (zN tx)] rfl (rfl) ⟨by omega, by omega⟩ rfl ?_
              refine z_aload_n Z dX7_makes_136 1 rfl ?_
              refine z_get Z dX7_makes_137 zin_X7_makes_X7 0 1 rfl rfl (by decide) zlk_X7_makes_7 rfl ?_
              refine z_iload Z dX7_makes_140 0 rfl ?_
              refine z_iconst (v := 2) Z dX7_makes_142 rfl ?_
              refine z_iadd Z dX7_makes_143 ?_
              refine z_top (y := (((72 + (9 * pl)) + 2 : Nat) : Int)) (by omega) ?_
              refine z_iload_n Z dX7_makes_144 3 rfl ?_
              refine z_iast Z dX7_makes_145 1 ((72 + (9 * pl)) + 2) [zO h0 6 [zi th, .ref aS, zi ((sv : Nat) : Int), .ref aF, .ref aX, zi ((ln : Nat) : Int), zi ((ta : Nat) : Int), zi sg, zi ((f1 : Nat) : Int), zi ((l1 : Nat) : Int), zi ((f2 : Nat) : Int), zi ((l2 : Nat) : Int)], zAI ct aS 3888 (zU (zU (zU (mhF g (9 * pl) cnt) ((72 + (9 * pl)) + 0) (g 1)) ((72 + (9 * pl)) + 1) ((hhF tx a z : Nat) : Int)) ((72 + (9 * pl)) + 2) ((z : Nat) : Int)), zAI ct aX 80 (zN tx)] rfl (rfl) ⟨by omega, by omega⟩ rfl ?_
              refine z_iconst (v := 0) Z dX7_makes_146 rfl ?_
              refine z_istore Z dX7_makes_147 [(7, zi 0), (6, zi ((72 + (9 * pl) : Nat) : Int)), (0, .ref h0), (1, zi ((a : Nat) : Int)), (2, zi ((z : Nat) : Int)), (3, zi (g 1)), (4, zi ((hhF tx a z : Nat) : Int)), (5, zi ((pl : Nat) : Int))] (by decide) rfl ?_
              refine z_lsub [2, 3, 4, 5, 6, 7, 1, 0] [(0, .ref h0), (1, zi ((a : Nat) : Int)), (2, zi ((z : Nat) : Int)), (3, zi (g 1)), (4, zi ((hhF tx a z : Nat) : Int)), (5, zi ((pl : Nat) : Int)), (6, zi ((72 + (9 * pl) : Nat) : Int)), (7, zi 0)] rfl ?_
              have LOOP149 : ∀ (N2 : Nat) (q : Nat) (x7 : Int) (y1g : Nat → Int), 7 - q < N2 → x7 = ((q : Nat) : Int) → y1g = mlF (mhW g (hhF tx a z) z cnt pl) (72 + 9 * pl) tx a z q → (q ≤ 6) → zW p l e ({ frames := 3, cells := 0, slots := 0, locals := 68 } : Room) s m ([.ref h0, zi ((a : Nat) : Int), zi ((z : Nat) : Int)] : List Value).toArray below meth c D A 8 Q 0 0 [zO h0 6 [zi th, .ref aS, zi ((sv : Nat) : Int), .ref aF, .ref aX, zi ((ln : Nat) : Int), zi ((ta : Nat) : Int), zi sg, zi ((f1 : Nat) : Int), zi ((l1 : Nat) : Int), zi ((f2 : Nat) : Int), zi ((l2 : Nat) : Int)], zAI ct aS 3888 y1g, zAI ct aX 80 (zN tx)] [(0, .ref h0), (1, zi ((a : Nat) : Int)), (2, zi ((z : Nat) : Int)), (3, zi (g 1)), (4, zi ((hhF tx a z : Nat) : Int)), (5, zi ((pl : Nat) : Int)), (6, zi ((72 + (9 * pl) : Nat) : Int)), (7, zi x7)] 149 [] := by
                intro N2
                induction N2 with
                | zero => intro q x7 y1g hm2; exact absurd hm2 (Nat.not_lt_zero _)
                | succ N2 ih2 =>
                  intro q x7 y1g hm2 ex7 ey1g hq
                  subst ex7
                  subst ey1g
                  refine z_iload Z dX7_makes_149 7 rfl ?_
                  refine z_bipush (v := 6) Z dX7_makes_151 (by decide +kernel) ?_
                  refine z_icmp_ge Z 193 dX7_makes_153 (by decide) (by omega) (by omega) (fun h153 => ?_) (fun h153 => ?_)
                  · refine z_eqs [zO h0 6 [zi th, .ref aS, zi ((sv : Nat) : Int), .ref aF, .ref aX, zi ((ln : Nat) : Int), zi ((ta : Nat) : Int), zi sg, zi ((f1 : Nat) : Int), zi ((l1 : Nat) : Int), zi ((f2 : Nat) : Int), zi ((l2 : Nat) : Int)], zAI ct aS 3888 (mkE g tx a z cnt pl), zAI ct aX 80 (zN tx)] _ _ (by rw [show q = 6 from by omega]; rfl) rfl rfl ?_
                    refine z_aload_n Z dX7_makes_193 0 rfl ?_
                    refine z_get Z dX7_makes_194 zin_X7_makes_X7 0 1 rfl rfl (by decide) zlk_X7_makes_7 rfl ?_
                    refine z_iconst (v := 0) Z dX7_makes_197 rfl ?_
                    refine z_dup2 Z dX7_makes_198 rfl rfl ?_
                    refine z_iald Z dX7_makes_199 1 (0) rfl (by omega) ⟨by omega, by omega⟩ ?_
                    refine z_top (y := ((cnt : Nat) : Int)) (by rw [mkE_lo _ _ _ _ _ _ (by omega), hcn]) ?_
                    refine z_iconst (v := 1) Z dX7_makes_200 rfl ?_
                    refine z_iadd Z dX7_makes_201 ?_
                    refine z_top (y := ((cnt + 1 : Nat) : Int)) (by omega) ?_
                    refine z_iast Z dX7_makes_202 1 (0) [zO h0 6 [zi th, .ref aS, zi ((sv : Nat) : Int), .ref aF, .ref aX, zi ((ln : Nat) : Int), zi ((ta : Nat) : Int), zi sg, zi ((f1 : Nat) : Int), zi ((l1 : Nat) : Int), zi ((f2 : Nat) : Int), zi ((l2 : Nat) : Int)], zAI ct aS 3888 (zU (mkE g tx a z cnt pl) 0 ((cnt + 1 : Nat) : Int)), zAI ct aX 80 (zN tx)] rfl (by omega) ⟨by omega, by omega⟩ rfl ?_
                    refine z_aload_n Z dX7_makes_203 0 rfl ?_
                    refine z_get Z dX7_makes_204 zin_X7_makes_X7 0 1 rfl rfl (by decide) zlk_X7_makes_7 rfl ?_
                    refine z_iconst (v := 1) Z dX7_makes_207 rfl ?_
                    refine z_dup2 Z dX7_makes_208 rfl rfl ?_
                    refine z_iald Z dX7_makes_209 1 (1) rfl (by omega) ⟨by omega, by omega⟩ ?_
                    refine z_top (y := (g 1)) (by rw [zU_n _ _ (by omega), mkE_lo _ _ _ _ _ _ (by omega)]) ?_
                    refine z_iconst (v := 1) Z dX7_makes_210 rfl ?_
                    refine z_iadd Z dX7_makes_211 ?_
                    refine z_iast Z dX7_makes_212 1 (1) [zO h0 6 [zi th, .ref aS, zi ((sv : Nat) : Int), .ref aF, .ref aX, zi ((ln : Nat) : Int), zi ((ta : Nat) : Int), zi sg, zi ((f1 : Nat) : Int), zi ((l1 : Nat) : Int), zi ((f2 : Nat) : Int), zi ((l2 : Nat) : Int)], zAI ct aS 3888 (zU (zU (mkE g tx a z cnt pl) 0 ((cnt + 1 : Nat) : Int)) 1 ((g 1) + 1)), zAI ct aX 80 (zN tx)] rfl (by omega) ⟨by omega, by omega⟩ rfl ?_
                    refine z_eqs [zO h0 6 [zi th, .ref aS, zi ((sv : Nat) : Int), .ref aF, .ref aX, zi ((ln : Nat) : Int), zi ((ta : Nat) : Int), zi sg, zi ((f1 : Nat) : Int), zi ((l1 : Nat) : Int), zi ((f2 : Nat) : Int), zi ((l2 : Nat) : Int)], zAI ct aS 3888 (mkG g tx a z cnt pl), zAI ct aX 80 (zN tx)] _ _ (rfl) rfl rfl ?_
                    refine z_aload_n Z dX7_makes_213 0 rfl ?_
                    refine z_iload Z dX7_makes_214 4 rfl ?_
                    refine z_callVu (rest := []) Z dX7_makes_216 6 0 _ _ rfl rfl rfl (zc_X7_splitsFor l D ct (h0) (aS) (aF) (aX) (th) (sg) (sv) (ln) (ta) (f1) (l1) (f2) (l2) (mkG g tx a z cnt pl) (cnt + 1) (hhF tx a z) (mkG_0 _ _ _ _ _ _) (by omega) (mkG_rg hg ht hc hp h1 (by omega) hz) (mkG_hs hhs hc hp hl9) (hl9) (by rw [mkG_lo _ _ _ _ _ _ (by omega) (by omega)]; exact h2) (by rw [mkG_lo _ _ _ _ _ _ (by omega) (by omega)]; exact h3)) (cwV 1 Z.1.2.2.2.2 gX7_makes_X7_splitsFor rfl rfl rfl (by decide +kernel) ⟨Nat.le_of_ble_eq_true rfl, Nat.le_of_ble_eq_true rfl⟩) rfl (Nat.le_of_ble_eq_true rfl) ⟨Nat.le_of_ble_eq_true rfl, Nat.le_of_ble_eq_true rfl⟩ [true, true, false] [zO h0 6 [zi th, .ref aS, zi ((sv : Nat) : Int), .ref aF, .ref aX, zi ((ln : Nat) : Int), zi ((ta : Nat) : Int), zi sg, zi ((f1 : Nat) : Int), zi ((l1 : Nat) : Int), zi ((f2 : Nat) : Int), zi ((l2 : Nat) : Int)], zAI ct aS 3888 (msF (hhF tx a z) (cnt + 1) (6 - dpF (mkG g tx a z cnt pl) (hhF tx a z) 6 0) (dpF (mkG g tx a z cnt pl) (hhF tx a z) 6 0) (mkG g tx a z cnt pl)), zAI ct aX 80 (zN tx)] [] rfl rfl rfl rfl ?_
                    refine z_iload_n Z dX7_makes_219 3 rfl ?_
                    refine z_eqs [zO h0 6 [zi th, .ref aS, zi ((sv : Nat) : Int), .ref aF, .ref aX, zi ((ln : Nat) : Int), zi ((ta : Nat) : Int), zi sg, zi ((f1 : Nat) : Int), zi ((l1 : Nat) : Int), zi ((f2 : Nat) : Int), zi ((l2 : Nat) : Int)], zAI ct aS 3888 (mkR g tx a z cnt), zAI ct aX 80 (zN tx)] _ [zi (g 1)] (by unfold mkR; rw [hz9]) rfl (rfl) ?_
                    exact hR _ _ () trivial dX7_makes_220
                  · refine z_aload_n Z dX7_makes_156 0 rfl ?_
                    refine z_get Z dX7_makes_157 zin_X7_makes_X7 0 1 rfl rfl (by decide) zlk_X7_makes_7 rfl ?_
                    refine z_iload Z dX7_makes_160 6 rfl ?_
                    refine z_iconst (v := 3) Z dX7_makes_162 rfl ?_
                    refine z_iadd Z dX7_makes_163 ?_
                    refine z_top (y := (((72 + (9 * pl)) + 3 : Nat) : Int)) (by omega) ?_
                    refine z_iload Z dX7_makes_164 7 rfl ?_
                    refine z_iadd Z dX7_makes_166 ?_
                    refine z_top (y := ((((72 + (9 * pl)) + 3) + q : Nat) : Int)) (by omega) ?_
                    refine z_iload Z dX7_makes_167 7 rfl ?_
                    refine z_iload_n Z dX7_makes_169 2 rfl ?_
                    refine z_icmp_ge Z 185 dX7_makes_170 (by decide) (by omega) (by omega) (fun h170 => ?_) (fun h170 => ?_)
                    · refine z_iconst (v := 0) Z dX7_makes_185 rfl ?_
                      refine z_iast Z dX7_makes_186 1 (((72 + (9 * pl)) + 3) + q) [zO h0 6 [zi th, .ref aS, zi ((sv : Nat) : Int), .ref aF, .ref aX, zi ((ln : Nat) : Int), zi ((ta : Nat) : Int), zi sg, zi ((f1 : Nat) : Int), zi ((l1 : Nat) : Int), zi ((f2 : Nat) : Int), zi ((l2 : Nat) : Int)], zAI ct aS 3888 (zU (mlF (mhW g (hhF tx a z) z cnt pl) (72 + 9 * pl) tx a z q) (((72 + (9 * pl)) + 3) + q) 0), zAI ct aX 80 (zN tx)] rfl (rfl) ⟨by omega, by omega⟩ rfl ?_
                      refine z_iinc (v := ((q + 1 : Nat) : Int)) Z dX7_makes_187 7 [(7, zi ((q + 1 : Nat) : Int)), (0, .ref h0), (1, zi ((a : Nat) : Int)), (2, zi ((z : Nat) : Int)), (3, zi (g 1)), (4, zi ((hhF tx a z : Nat) : Int)), (5, zi ((pl : Nat) : Int)), (6, zi ((72 + (9 * pl) : Nat) : Int))] rfl (by omega) (by decide) rfl ?_
                      refine z_goto Z 149 dX7_makes_190 (by decide) ?_
                      refine z_lsub [1, 2, 3, 4, 5, 6, 7, 0] [(0, .ref h0), (1, zi ((a : Nat) : Int)), (2, zi ((z : Nat) : Int)), (3, zi (g 1)), (4, zi ((hhF tx a z : Nat) : Int)), (5, zi ((pl : Nat) : Int)), (6, zi ((72 + (9 * pl) : Nat) : Int)), (7, zi ((q + 1 : Nat) : Int))] rfl ?_
                      exact ih2 (q + 1) _ _ (by omega) (by first | rfl | omega) (mlF_s2 _ _ _ _ (by omega)) (by first | assumption | omega)
                    · refine z_aload_n Z dX7_makes_173 0 rfl ?_
                      refine z_get Z dX7_makes_174 zin_X7_makes_X7 0 4 rfl rfl (by decide) zlk_X7_makes_17 rfl ?_
                      refine z_iload_n Z dX7_makes_177 1 rfl ?_
                      refine z_iload Z dX7_makes_178 7 rfl ?_
                      refine z_iadd Z dX7_makes_180 ?_
                      refine z_top (y := ((a + q : Nat) : Int)) (by omega) ?_
                      refine z_ialdN Z dX7_makes_181 2 (a + q) rfl (rfl) ⟨by omega, by omega⟩ ?_
                      have he4 := ht (a + q) (by omega)
                      refine z_goto Z 186 dX7_makes_182 (by decide) ?_
                      refine z_iast Z dX7_makes_186 1 (((72 + (9 * pl)) + 3) + q) [zO h0 6 [zi th, .ref aS, zi ((sv : Nat) : Int), .ref aF, .ref aX, zi ((ln : Nat) : Int), zi ((ta : Nat) : Int), zi sg, zi ((f1 : Nat) : Int), zi ((l1 : Nat) : Int), zi ((f2 : Nat) : Int), zi ((l2 : Nat) : Int)], zAI ct aS 3888 (zU (mlF (mhW g (hhF tx a z) z cnt pl) (72 + 9 * pl) tx a z q) (((72 + (9 * pl)) + 3) + q) ((tx (a + q) : Nat) : Int)), zAI ct aX 80 (zN tx)] rfl (rfl) ⟨by omega, by omega⟩ rfl ?_
                      refine z_iinc (v := ((q + 1 : Nat) : Int)) Z dX7_makes_187 7 [(7, zi ((q + 1 : Nat) : Int)), (0, .ref h0), (1, zi ((a : Nat) : Int)), (2, zi ((z : Nat) : Int)), (3, zi (g 1)), (4, zi ((hhF tx a z : Nat) : Int)), (5, zi ((pl : Nat) : Int)), (6, zi ((72 + (9 * pl) : Nat) : Int))] rfl (by omega) (by decide) rfl ?_
                      refine z_goto Z 149 dX7_makes_190 (by decide) ?_
                      refine z_lsub [1, 2, 3, 4, 5, 6, 7, 0] [(0, .ref h0), (1, zi ((a : Nat) : Int)), (2, zi ((z : Nat) : Int)), (3, zi (g 1)), (4, zi ((hhF tx a z : Nat) : Int)), (5, zi ((pl : Nat) : Int)), (6, zi ((72 + (9 * pl) : Nat) : Int)), (7, zi ((q + 1 : Nat) : Int))] rfl ?_
                      exact ih2 (q + 1) _ _ (by omega) (by first | rfl | omega) (mlF_s1 _ _ _ _ (by omega)) (by first | assumption | omega)
              exact LOOP149 (7 - 0 + 1) 0 _ _ (Nat.lt_succ_self _) (by first | rfl | omega) (mlF_0 _ _ _ _ _) (by first | assumption | omega)
            · refine z_aload_n Z dX7_makes_76 0 rfl ?_
              refine z_get Z dX7_makes_77 zin_X7_makes_X7 0 1 rfl rfl (by decide) zlk_X7_makes_7 rfl ?_
              refine z_bipush (v := 72) Z dX7_makes_80 (by decide +kernel) ?_
              refine z_iload Z dX7_makes_82 6 rfl ?_
              refine z_iadd Z dX7_makes_84 ?_
              refine z_bipush (v := 9) Z dX7_makes_85 (by decide +kernel) ?_
              refine z_iadd Z dX7_makes_87 ?_
              refine z_aload_n Z dX7_makes_88 0 rfl ?_
              refine z_get Z dX7_makes_89 zin_X7_makes_X7 0 1 rfl rfl (by decide) zlk_X7_makes_7 rfl ?_
              refine z_bipush (v := 72) Z dX7_makes_92 (by decide +kernel) ?_
              refine z_iload Z dX7_makes_94 6 rfl ?_
              refine z_iadd Z dX7_makes_96 ?_
              refine z_iald Z dX7_makes_97 1 (72 + (u - 1)) rfl (by omega) ⟨by omega, by omega⟩ ?_
              refine z_iast Z dX7_makes_98 1 ((72 + (u - 1)) + 9) [zO h0 6 [zi th, .ref aS, zi ((sv : Nat) : Int), .ref aF, .ref aX, zi ((ln : Nat) : Int), zi ((ta : Nat) : Int), zi sg, zi ((f1 : Nat) : Int), zi ((l1 : Nat) : Int), zi ((f2 : Nat) : Int), zi ((l2 : Nat) : Int)], zAI ct aS 3888 (zU (mhF g u cnt) ((72 + (u - 1)) + 9) ((mhF g u cnt) (72 + (u - 1)))), zAI ct aX 80 (zN tx)] rfl (by omega) ⟨by omega, by omega⟩ rfl ?_
              refine z_iinc (v := ((((u : Nat) : Int) - 1) + (-1))) Z dX7_makes_99 6 [(6, zi ((((u : Nat) : Int) - 1) + (-1))), (0, .ref h0), (1, zi ((a : Nat) : Int)), (2, zi ((z : Nat) : Int)), (3, zi (g 1)), (4, zi ((hhF tx a z : Nat) : Int)), (5, zi ((pl : Nat) : Int))] rfl (rfl) (by decide) rfl ?_
              refine z_goto Z 66 dX7_makes_102 (by decide) ?_
              refine z_lsub [1, 2, 3, 4, 5, 6, 0] [(0, .ref h0), (1, zi ((a : Nat) : Int)), (2, zi ((z : Nat) : Int)), (3, zi (g 1)), (4, zi ((hhF tx a z : Nat) : Int)), (5, zi ((pl : Nat) : Int)), (6, zi ((((u : Nat) : Int) - 1) + (-1)))] rfl ?_
              exact ih1 (u - 1) _ _ (by omega) (by first | rfl | omega) (mhF_s g (by omega) (by omega)) (by first | assumption | omega) (by first | assumption | omega)
        exact LOOP66 ((9 * cnt) + 1 + 1) (9 * cnt) _ _ (Nat.lt_succ_self _) (by first | rfl | omega) (mhF_0 g cnt) (by first | assumption | omega) (by first | assumption | omega)
      · refine z_aload_n Z dX7_makes_28 0 rfl ?_
        refine z_iload Z dX7_makes_29 5 rfl ?_
        refine z_iconst (v := 1) Z dX7_makes_31 rfl ?_
        refine z_isub Z dX7_makes_32 ?_
        refine z_top (y := ((pl - 1 : Nat) : Int)) (by omega) ?_
        refine z_callVu (rest := []) Z dX7_makes_33 6 0 _ _ rfl rfl rfl (zc_X7_keyAt l D ct (h0) (aS) (aF) (aX) (th) (sg) (sv) (ln) (ta) (f1) (l1) (f2) (l2) (g) (pl - 1) (by first | assumption | omega)) (cwV 1 Z.1.2.2.2.2 gX7_makes_X7_keyAt rfl rfl rfl (by decide +kernel) ⟨Nat.le_of_ble_eq_true rfl, Nat.le_of_ble_eq_true rfl⟩) rfl (Nat.le_of_ble_eq_true rfl) ⟨Nat.le_of_ble_eq_true rfl, Nat.le_of_ble_eq_true rfl⟩ [true, true, false] [zO h0 6 [zi th, .ref aS, zi ((sv : Nat) : Int), .ref aF, .ref aX, zi ((ln : Nat) : Int), zi ((ta : Nat) : Int), zi sg, zi ((f1 : Nat) : Int), zi ((l1 : Nat) : Int), zi ((f2 : Nat) : Int), zi ((l2 : Nat) : Int)], zAI ct aS 3888 g, zAI ct aX 80 (zN tx)] [zi (mK g (pl - 1))] rfl rfl rfl rfl ?_
        have hr1 := mI_rg (k := pl - 1) (w := 1) hg (by omega) (by decide)
        have hr2 := mI_rg (k := pl - 1) (w := 0) hg (by omega) (by decide)
        have hm9 : mK g (pl - 1) = 1000 * mI g (pl - 1) 1 + mI g (pl - 1) 0 := rfl
        refine z_sipush (v := 1000) Z dX7_makes_36 (by decide +kernel) ?_
        refine z_iload Z dX7_makes_39 4 rfl ?_
        refine z_imul Z dX7_makes_41 ?_
        refine z_top (y := ((1000 * (hhF tx a z) : Nat) : Int)) (by omega) ?_
        refine z_iload_n Z dX7_makes_42 3 rfl ?_
        refine z_iadd Z dX7_makes_43 ?_
        refine z_icmp_le Z 53 dX7_makes_44 (by decide) (by omega) (by omega) (fun h44 => ?_) (fun h44 => ?_)
        · have hz9 : mpF g (1000 * ((hhF tx a z : Nat) : Int) + g 1) cnt = pl := by rw [← hpe]; exact mpF_stop (by omega) (by omega)
          refine z_bipush (v := 9) Z dX7_makes_53 (by decide +kernel) ?_
          refine z_aload_n Z dX7_makes_55 0 rfl ?_
          refine z_get Z dX7_makes_56 zin_X7_makes_X7 0 1 rfl rfl (by decide) zlk_X7_makes_7 rfl ?_
          refine z_iconst (v := 0) Z dX7_makes_59 rfl ?_
          refine z_iald Z dX7_makes_60 1 (0) rfl (by omega) ⟨by omega, by omega⟩ ?_
          have he5 := hg (0) (by omega)
          refine z_top (y := ((cnt : Nat) : Int)) (hcn.symm) ?_
          refine z_imul Z dX7_makes_61 ?_
          refine z_top (y := ((9 * cnt : Nat) : Int)) (by omega) ?_
          refine z_iconst (v := 1) Z dX7_makes_62 rfl ?_
          refine z_isub Z dX7_makes_63 ?_
          refine z_istore Z dX7_makes_64 [(6, zi (((9 * cnt : Nat) : Int) - 1)), (0, .ref h0), (1, zi ((a : Nat) : Int)), (2, zi ((z : Nat) : Int)), (3, zi (g 1)), (4, zi ((hhF tx a z : Nat) : Int)), (5, zi ((pl : Nat) : Int))] (by decide) rfl ?_
          refine z_lsub [1, 2, 3, 4, 5, 6, 0] [(0, .ref h0), (1, zi ((a : Nat) : Int)), (2, zi ((z : Nat) : Int)), (3, zi (g 1)), (4, zi ((hhF tx a z : Nat) : Int)), (5, zi ((pl : Nat) : Int)), (6, zi (((9 * cnt : Nat) : Int) - 1))] rfl ?_
          have LOOP66 : ∀ (N1 : Nat) (u : Nat) (x6 : Int) (y1g : Nat → Int), u + 1 < N1 → x6 = (((u : Nat) : Int) - 1) → y1g = mhF g u cnt → (9 * pl ≤ u) → (u ≤ 9 * cnt) → zW p l e ({ frames := 3, cells := 0, slots := 0, locals := 68 } : Room) s m ([.ref h0, zi ((a : Nat) : Int), zi ((z : Nat) : Int)] : List Value).toArray below meth c D A 8 Q 0 0 [zO h0 6 [zi th, .ref aS, zi ((sv : Nat) : Int), .ref aF, .ref aX, zi ((ln : Nat) : Int), zi ((ta : Nat) : Int), zi sg, zi ((f1 : Nat) : Int), zi ((l1 : Nat) : Int), zi ((f2 : Nat) : Int), zi ((l2 : Nat) : Int)], zAI ct aS 3888 y1g, zAI ct aX 80 (zN tx)] [(0, .ref h0), (1, zi ((a : Nat) : Int)), (2, zi ((z : Nat) : Int)), (3, zi (g 1)), (4, zi ((hhF tx a z : Nat) : Int)), (5, zi ((pl : Nat) : Int)), (6, zi x6)] 66 [] := by
            intro N1
            induction N1 with
            | zero => intro u x6 y1g hm1; exact absurd hm1 (Nat.not_lt_zero _)
            | succ N1 ih1 =>
              intro u x6 y1g hm1 ex6 ey1g hu hu2
              subst ex6
              subst ey1g
              refine z_iload Z dX7_makes_66 6 rfl ?_
              refine z_bipush (v := 9) Z dX7_makes_68 (by decide +kernel) ?_
              refine z_iload Z dX7_makes_70 5 rfl ?_
              refine z_imul Z dX7_makes_72 ?_
              refine z_top (y := ((9 * pl : Nat) : Int)) (by omega) ?_
              refine z_icmp_lt Z 105 dX7_makes_73 (by decide) (by omega) (by omega) (fun h73 => ?_) (fun h73 => ?_)
              · refine z_eqs [zO h0 6 [zi th, .ref aS, zi ((sv : Nat) : Int), .ref aF, .ref aX, zi ((ln : Nat) : Int), zi ((ta : Nat) : Int), zi sg, zi ((f1 : Nat) : Int), zi ((l1 : Nat) : Int), zi ((f2 : Nat) : Int), zi ((l2 : Nat) : Int)], zAI ct aS 3888 (mhF g (9 * pl) cnt), zAI ct aX 80 (zN tx)] _ _ (by rw [show u = 9 * pl from by omega]) rfl rfl ?_
                refine z_bipush (v := 72) Z dX7_makes_105 (by decide +kernel) ?_
                refine z_bipush (v := 9) Z dX7_makes_107 (by decide +kernel) ?_
                refine z_iload Z dX7_makes_109 5 rfl ?_
                refine z_imul Z dX7_makes_111 ?_
                refine z_top (y := ((9 * pl : Nat) : Int)) (by omega) ?_
                refine z_iadd Z dX7_makes_112 ?_
                refine z_top (y := ((72 + (9 * pl) : Nat) : Int)) (by omega) ?_
                refine z_istore Z dX7_makes_113 [(6, zi ((72 + (9 * pl) : Nat) : Int)), (0, .ref h0), (1, zi ((a : Nat) : Int)), (2, zi ((z : Nat) : Int)), (3, zi (g 1)), (4, zi ((hhF tx a z : Nat) : Int)), (5, zi ((pl : Nat) : Int))] (by decide) rfl ?_
                refine z_aload_n Z dX7_makes_115 1 rfl ?_
                refine z_get Z dX7_makes_116 zin_X7_makes_X7 0 1 rfl rfl (by decide) zlk_X7_makes_7 rfl ?_
                refine z_iload Z dX7_makes_119 0 rfl ?_
                refine z_iconst (v := 0) Z dX7_makes_121 rfl ?_
                refine z_iadd Z dX7_makes_122 ?_
                refine z_top (y := (((72 + (9 * pl)) + 0 : Nat) : Int)) (by omega) ?_
                refine z_iload_n Z dX7_makes_123 4 rfl ?_
                refine z_iast Z dX7_makes_124 1 ((72 + (9 * pl)) + 0) [zO h0 6 [zi th, .ref aS, zi ((sv : Nat) : Int), .ref aF, .ref aX, zi ((ln : Nat) : Int), zi ((ta : Nat) : Int), zi sg, zi ((f1 : Nat) : Int), zi ((l1 : Nat) : Int), zi ((f2 : Nat) : Int), zi ((l2 : Nat) : Int)], zAI ct aS 3888 (zU (mhF g (9 * pl) cnt) ((72 + (9 * pl)) + 0) (g 1)), zAI ct aX 80 (zN tx)] rfl (rfl) ⟨by omega, by omega⟩ rfl ?_
                refine z_aload_n Z dX7_makes_125 1 rfl ?_
                refine z_get Z dX7_makes_126 zin_X7_makes_X7 0 1 rfl rfl (by decide) zlk_X7_makes_7 rfl ?_
                refine z_iload Z dX7_makes_129 0 rfl ?_
                refine z_iconst (v := 1) Z dX7_makes_131 rfl ?_
                refine z_iadd Z dX7_makes_132 ?_
                refine z_top (y := (((72 + (9 * pl)) + 1 : Nat) : Int)) (by omega) ?_
                refine z_iload Z dX7_makes_133 5 rfl ?_
                refine z_iast Z dX7_makes_135 1 ((72 + (9 * pl)) + 1) [zO h0 6 [zi th, .ref aS, zi ((sv : Nat) : Int), .ref aF, .ref aX, zi ((ln : Nat) : Int), zi ((ta : Nat) : Int), zi sg, zi ((f1 : Nat) : Int), zi ((l1 : Nat) : Int), zi ((f2 : Nat) : Int), zi ((l2 : Nat) : Int)], zAI ct aS 3888 (zU (zU (mhF g (9 * pl) cnt) ((72 + (9 * pl)) + 0) (g 1)) ((72 + (9 * pl)) + 1) ((hhF tx a z : Nat) : Int)), zAI ct aX 80 (zN tx)] rfl (rfl) ⟨by omega, by omega⟩ rfl ?_
                refine z_aload_n Z dX7_makes_136 1 rfl ?_
                refine z_get Z dX7_makes_137 zin_X7_makes_X7 0 1 rfl rfl (by decide) zlk_X7_makes_7 rfl ?_
                refine z_iload Z dX7_makes_140 0 rfl ?_
                refine z_iconst (v := 2) Z dX7_makes_142 rfl ?_
                refine z_iadd Z dX7_makes_143 ?_
                refine z_top (y := (((72 + (9 * pl)) + 2 : Nat) : Int)) (by omega) ?_
                refine z_iload_n Z dX7_makes_144 3 rfl ?_
                refine z_iast Z dX7_makes_145 1 ((72 + (9 * pl)) + 2) [zO h0 6 [zi th, .ref aS, zi ((sv : Nat) : Int), .ref aF, .ref aX, zi ((ln : Nat) : Int), zi ((ta : Nat) : Int), zi sg, zi ((f1 : Nat) : Int), zi ((l1 : Nat) : Int), zi ((f2 : Nat) : Int), zi ((l2 : Nat) : Int)], zAI ct aS 3888 (zU (zU (zU (mhF g (9 * pl) cnt) ((72 + (9 * pl)) + 0) (g 1)) ((72 + (9 * pl)) + 1) ((hhF tx a z : Nat) : Int)) ((72 + (9 * pl)) + 2) ((z : Nat) : Int)), zAI ct aX 80 (zN tx)] rfl (rfl) ⟨by omega, by omega⟩ rfl ?_
                refine z_iconst (v := 0) Z dX7_makes_146 rfl ?_
                refine z_istore Z dX7_makes_147 [(7, zi 0), (6, zi ((72 + (9 * pl) : Nat) : Int)), (0, .ref h0), (1, zi ((a : Nat) : Int)), (2, zi ((z : Nat) : Int)), (3, zi (g 1)), (4, zi ((hhF tx a z : Nat) : Int)), (5, zi ((pl : Nat) : Int))] (by decide) rfl ?_
                refine z_lsub [2, 3, 4, 5, 6, 7, 1, 0] [(0, .ref h0), (1, zi ((a : Nat) : Int)), (2, zi ((z : Nat) : Int)), (3, zi (g 1)), (4, zi ((hhF tx a z : Nat) : Int)), (5, zi ((pl : Nat) : Int)), (6, zi ((72 + (9 * pl) : Nat) : Int)), (7, zi 0)] rfl ?_
                have LOOP149 : ∀ (N2 : Nat) (q : Nat) (x7 : Int) (y1g : Nat → Int), 7 - q < N2 → x7 = ((q : Nat) : Int) → y1g = mlF (mhW g (hhF tx a z) z cnt pl) (72 + 9 * pl) tx a z q → (q ≤ 6) → zW p l e ({ frames := 3, cells := 0, slots := 0, locals := 68 } : Room) s m ([.ref h0, zi ((a : Nat) : Int), zi ((z : Nat) : Int)] : List Value).toArray below meth c D A 8 Q 0 0 [zO h0 6 [zi th, .ref aS, zi ((sv : Nat) : Int), .ref aF, .ref aX, zi ((ln : Nat) : Int), zi ((ta : Nat) : Int), zi sg, zi ((f1 : Nat) : Int), zi ((l1 : Nat) : Int), zi ((f2 : Nat) : Int), zi ((l2 : Nat) : Int)], zAI ct aS 3888 y1g, zAI ct aX 80 (zN tx)] [(0, .ref h0), (1, zi ((a : Nat) : Int)), (2, zi ((z : Nat) : Int)), (3, zi (g 1)), (4, zi ((hhF tx a z : Nat) : Int)), (5, zi ((pl : Nat) : Int)), (6, zi ((72 + (9 * pl) : Nat) : Int)), (7, zi x7)] 149 [] := by
                  intro N2
                  induction N2 with
                  | zero => intro q x7 y1g hm2; exact absurd hm2 (Nat.not_lt_zero _)
                  | succ N2 ih2 =>
                    intro q x7 y1g hm2 ex7 ey1g hq
                    subst ex7
                    subst ey1g
                    refine z_iload Z dX7_makes_149 7 rfl ?_
                    refine z_bipush (v := 6) Z dX7_makes_151 (by decide +kernel) ?_
                    refine z_icmp_ge Z 193 dX7_makes_153 (by decide) (by omega) (by omega) (fun h153 => ?_) (fun h153 => ?_)
                    · refine z_eqs [zO h0 6 [zi th, .ref aS, zi ((sv : Nat) : Int), .ref aF, .ref aX, zi ((ln : Nat) : Int), zi ((ta : Nat) : Int), zi sg, zi ((f1 : Nat) : Int), zi ((l1 : Nat) : Int), zi ((f2 : Nat) : Int), zi ((l2 : Nat) : Int)], zAI ct aS 3888 (mkE g tx a z cnt pl), zAI ct aX 80 (zN tx)] _ _ (by rw [show q = 6 from by omega]; rfl) rfl rfl ?_
                      refine z_aload_n Z dX7_makes_193 0 rfl ?_
                      refine z_get Z dX7_makes_194 zin_X7_makes_X7 0 1 rfl rfl (by decide) zlk_X7_makes_7 rfl ?_
                      refine z_iconst (v := 0) Z dX7_makes_197 rfl ?_
                      refine z_dup2 Z dX7_makes_198 rfl rfl ?_
                      refine z_iald Z dX7_makes_199 1 (0) rfl (by omega) ⟨by omega, by omega⟩ ?_
                      refine z_top (y := ((cnt : Nat) : Int)) (by rw [mkE_lo _ _ _ _ _ _ (by omega), hcn]) ?_
                      refine z_iconst (v := 1) Z dX7_makes_200 rfl ?_
                      refine z_iadd Z dX7_makes_201 ?_
                      refine z_top (y := ((cnt + 1 : Nat) : Int)) (by omega) ?_
                      refine z_iast Z dX7_makes_202 1 (0) [zO h0 6 [zi th, .ref aS, zi ((sv : Nat) : Int), .ref aF, .ref aX, zi ((ln : Nat) : Int), zi ((ta : Nat) : Int), zi sg, zi ((f1 : Nat) : Int), zi ((l1 : Nat) : Int), zi ((f2 : Nat) : Int), zi ((l2 : Nat) : Int)], zAI ct aS 3888 (zU (mkE g tx a z cnt pl) 0 ((cnt + 1 : Nat) : Int)), zAI ct aX 80 (zN tx)] rfl (by omega) ⟨by omega, by omega⟩ rfl ?_
                      refine z_aload_n Z dX7_makes_203 0 rfl ?_
                      refine z_get Z dX7_makes_204 zin_X7_makes_X7 0 1 rfl rfl (by decide) zlk_X7_makes_7 rfl ?_
                      refine z_iconst (v := 1) Z dX7_makes_207 rfl ?_
                      refine z_dup2 Z dX7_makes_208 rfl rfl ?_
                      refine z_iald Z dX7_makes_209 1 (1) rfl (by omega) ⟨by omega, by omega⟩ ?_
                      refine z_top (y := (g 1)) (by rw [zU_n _ _ (by omega), mkE_lo _ _ _ _ _ _ (by omega)]) ?_
                      refine z_iconst (v := 1) Z dX7_makes_210 rfl ?_
                      refine z_iadd Z dX7_makes_211 ?_
                      refine z_iast Z dX7_makes_212 1 (1) [zO h0 6 [zi th, .ref aS, zi ((sv : Nat) : Int), .ref aF, .ref aX, zi ((ln : Nat) : Int), zi ((ta : Nat) : Int), zi sg, zi ((f1 : Nat) : Int), zi ((l1 : Nat) : Int), zi ((f2 : Nat) : Int), zi ((l2 : Nat) : Int)], zAI ct aS 3888 (zU (zU (mkE g tx a z cnt pl) 0 ((cnt + 1 : Nat) : Int)) 1 ((g 1) + 1)), zAI ct aX 80 (zN tx)] rfl (by omega) ⟨by omega, by omega⟩ rfl ?_
                      refine z_eqs [zO h0 6 [zi th, .ref aS, zi ((sv : Nat) : Int), .ref aF, .ref aX, zi ((ln : Nat) : Int), zi ((ta : Nat) : Int), zi sg, zi ((f1 : Nat) : Int), zi ((l1 : Nat) : Int), zi ((f2 : Nat) : Int), zi ((l2 : Nat) : Int)], zAI ct aS 3888 (mkG g tx a z cnt pl), zAI ct aX 80 (zN tx)] _ _ (rfl) rfl rfl ?_
                      refine z_aload_n Z dX7_makes_213 0 rfl ?_
                      refine z_iload Z dX7_makes_214 4 rfl ?_
                      refine z_callVu (rest := []) Z dX7_makes_216 6 0 _ _ rfl rfl rfl (zc_X7_splitsFor l D ct (h0) (aS) (aF) (aX) (th) (sg) (sv) (ln) (ta) (f1) (l1) (f2) (l2) (mkG g tx a z cnt pl) (cnt + 1) (hhF tx a z) (mkG_0 _ _ _ _ _ _) (by omega) (mkG_rg hg ht hc hp h1 (by omega) hz) (mkG_hs hhs hc hp hl9) (hl9) (by rw [mkG_lo _ _ _ _ _ _ (by omega) (by omega)]; exact h2) (by rw [mkG_lo _ _ _ _ _ _ (by omega) (by omega)]; exact h3)) (cwV 1 Z.1.2.2.2.2 gX7_makes_X7_splitsFor rfl rfl rfl (by decide +kernel) ⟨Nat.le_of_ble_eq_true rfl, Nat.le_of_ble_eq_true rfl⟩) rfl (Nat.le_of_ble_eq_true rfl) ⟨Nat.le_of_ble_eq_true rfl, Nat.le_of_ble_eq_true rfl⟩ [true, true, false] [zO h0 6 [zi th, .ref aS, zi ((sv : Nat) : Int), .ref aF, .ref aX, zi ((ln : Nat) : Int), zi ((ta : Nat) : Int), zi sg, zi ((f1 : Nat) : Int), zi ((l1 : Nat) : Int), zi ((f2 : Nat) : Int), zi ((l2 : Nat) : Int)], zAI ct aS 3888 (msF (hhF tx a z) (cnt + 1) (6 - dpF (mkG g tx a z cnt pl) (hhF tx a z) 6 0) (dpF (mkG g tx a z cnt pl) (hhF tx a z) 6 0) (mkG g tx a z cnt pl)), zAI ct aX 80 (zN tx)] [] rfl rfl rfl rfl ?_
                      refine z_iload_n Z dX7_makes_219 3 rfl ?_
                      refine z_eqs [zO h0 6 [zi th, .ref aS, zi ((sv : Nat) : Int), .ref aF, .ref aX, zi ((ln : Nat) : Int), zi ((ta : Nat) : Int), zi sg, zi ((f1 : Nat) : Int), zi ((l1 : Nat) : Int), zi ((f2 : Nat) : Int), zi ((l2 : Nat) : Int)], zAI ct aS 3888 (mkR g tx a z cnt), zAI ct aX 80 (zN tx)] _ [zi (g 1)] (by unfold mkR; rw [hz9]) rfl (rfl) ?_
                      exact hR _ _ () trivial dX7_makes_220
                    · refine z_aload_n Z dX7_makes_156 0 rfl ?_
                      refine z_get Z dX7_makes_157 zin_X7_makes_X7 0 1 rfl rfl (by decide) zlk_X7_makes_7 rfl ?_
                      refine z_iload Z dX7_makes_160 6 rfl ?_
                      refine z_iconst (v := 3) Z dX7_makes_162 rfl ?_
                      refine z_iadd Z dX7_makes_163 ?_
                      refine z_top (y := (((72 + (9 * pl)) + 3 : Nat) : Int)) (by omega) ?_
                      refine z_iload Z dX7_makes_164 7 rfl ?_
                      refine z_iadd Z dX7_makes_166 ?_
                      refine z_top (y := ((((72 + (9 * pl)) + 3) + q : Nat) : Int)) (by omega) ?_
                      refine z_iload Z dX7_makes_167 7 rfl ?_
                      refine z_iload_n Z dX7_makes_169 2 rfl ?_
                      refine z_icmp_ge Z 185 dX7_makes_170 (by decide) (by omega) (by omega) (fun h170 => ?_) (fun h170 => ?_)
                      · refine z_iconst (v := 0) Z dX7_makes_185 rfl ?_
                        refine z_iast Z dX7_makes_186 1 (((72 + (9 * pl)) + 3) + q) [zO h0 6 [zi th, .ref aS, zi ((sv : Nat) : Int), .ref aF, .ref aX, zi ((ln : Nat) : Int), zi ((ta : Nat) : Int), zi sg, zi ((f1 : Nat) : Int), zi ((l1 : Nat) : Int), zi ((f2 : Nat) : Int), zi ((l2 : Nat) : Int)], zAI ct aS 3888 (zU (mlF (mhW g (hhF tx a z) z cnt pl) (72 + 9 * pl) tx a z q) (((72 + (9 * pl)) + 3) + q) 0), zAI ct aX 80 (zN tx)] rfl (rfl) ⟨by omega, by omega⟩ rfl ?_
                        refine z_iinc (v := ((q + 1 : Nat) : Int)) Z dX7_makes_187 7 [(7, zi ((q + 1 : Nat) : Int)), (0, .ref h0), (1, zi ((a : Nat) : Int)), (2, zi ((z : Nat) : Int)), (3, zi (g 1)), (4, zi ((hhF tx a z : Nat) : Int)), (5, zi ((pl : Nat) : Int)), (6, zi ((72 + (9 * pl) : Nat) : Int))] rfl (by omega) (by decide) rfl ?_
                        refine z_goto Z 149 dX7_makes_190 (by decide) ?_
                        refine z_lsub [1, 2, 3, 4, 5, 6, 7, 0] [(0, .ref h0), (1, zi ((a : Nat) : Int)), (2, zi ((z : Nat) : Int)), (3, zi (g 1)), (4, zi ((hhF tx a z : Nat) : Int)), (5, zi ((pl : Nat) : Int)), (6, zi ((72 + (9 * pl) : Nat) : Int)), (7, zi ((q + 1 : Nat) : Int))] rfl ?_
                        exact ih2 (q + 1) _ _ (by omega) (by first | rfl | omega) (mlF_s2 _ _ _ _ (by omega)) (by first | assumption | omega)
                      · refine z_aload_n Z dX7_makes_173 0 rfl ?_
                        refine z_get Z dX7_makes_174 zin_X7_makes_X7 0 4 rfl rfl (by decide) zlk_X7_makes_17 rfl ?_
                        refine z_iload_n Z dX7_makes_177 1 rfl ?_
                        refine z_iload Z dX7_makes_178 7 rfl ?_
                        refine z_iadd Z dX7_makes_180 ?_
                        refine z_top (y := ((a + q : Nat) : Int)) (by omega) ?_
                        refine z_ialdN Z dX7_makes_181 2 (a + q) rfl (rfl) ⟨by omega, by omega⟩ ?_
                        have he6 := ht (a + q) (by omega)
                        refine z_goto Z 186 dX7_makes_182 (by decide) ?_
                        refine z_iast Z dX7_makes_186 1 (((72 + (9 * pl)) + 3) + q) [zO h0 6 [zi th, .ref aS, zi ((sv : Nat) : Int), .ref aF, .ref aX, zi ((ln : Nat) : Int), zi ((ta : Nat) : Int), zi sg, zi ((f1 : Nat) : Int), zi ((l1 : Nat) : Int), zi ((f2 : Nat) : Int), zi ((l2 : Nat) : Int)], zAI ct aS 3888 (zU (mlF (mhW g (hhF tx a z) z cnt pl) (72 + 9 * pl) tx a z q) (((72 + (9 * pl)) + 3) + q) ((tx (a + q) : Nat) : Int)), zAI ct aX 80 (zN tx)] rfl (rfl) ⟨by omega, by omega⟩ rfl ?_
                        refine z_iinc (v := ((q + 1 : Nat) : Int)) Z dX7_makes_187 7 [(7, zi ((q + 1 : Nat) : Int)), (0, .ref h0), (1, zi ((a : Nat) : Int)), (2, zi ((z : Nat) : Int)), (3, zi (g 1)), (4, zi ((hhF tx a z : Nat) : Int)), (5, zi ((pl : Nat) : Int)), (6, zi ((72 + (9 * pl) : Nat) : Int))] rfl (by omega) (by decide) rfl ?_
                        refine z_goto Z 149 dX7_makes_190 (by decide) ?_
                        refine z_lsub [1, 2, 3, 4, 5, 6, 7, 0] [(0, .ref h0), (1, zi ((a : Nat) : Int)), (2, zi ((z : Nat) : Int)), (3, zi (g 1)), (4, zi ((hhF tx a z : Nat) : Int)), (5, zi ((pl : Nat) : Int)), (6, zi ((72 + (9 * pl) : Nat) : Int)), (7, zi ((q + 1 : Nat) : Int))] rfl ?_
                        exact ih2 (q + 1) _ _ (by omega) (by first | rfl | omega) (mlF_s1 _ _ _ _ (by omega)) (by first | assumption | omega)
                exact LOOP149 (7 - 0 + 1) 0 _ _ (Nat.lt_succ_self _) (by first | rfl | omega) (mlF_0 _ _ _ _ _) (by first | assumption | omega)
              · refine z_aload_n Z dX7_makes_76 0 rfl ?_
                refine z_get Z dX7_makes_77 zin_X7_makes_X7 0 1 rfl rfl (by decide) zlk_X7_makes_7 rfl ?_
                refine z_bipush (v := 72) Z dX7_makes_80 (by decide +kernel) ?_
                refine z_iload Z dX7_makes_82 6 rfl ?_
                refine z_iadd Z dX7_makes_84 ?_
                refine z_bipush (v := 9) Z dX7_makes_85 (by decide +kernel) ?_
                refine z_iadd Z dX7_makes_87 ?_
                refine z_aload_n Z dX7_makes_88 0 rfl ?_
                refine z_get Z dX7_makes_89 zin_X7_makes_X7 0 1 rfl rfl (by decide) zlk_X7_makes_7 rfl ?_
                refine z_bipush (v := 72) Z dX7_makes_92 (by decide +kernel) ?_
                refine z_iload Z dX7_makes_94 6 rfl ?_
                refine z_iadd Z dX7_makes_96 ?_
                refine z_iald Z dX7_makes_97 1 (72 + (u - 1)) rfl (by omega) ⟨by omega, by omega⟩ ?_
                refine z_iast Z dX7_makes_98 1 ((72 + (u - 1)) + 9) [zO h0 6 [zi th, .ref aS, zi ((sv : Nat) : Int), .ref aF, .ref aX, zi ((ln : Nat) : Int), zi ((ta : Nat) : Int), zi sg, zi ((f1 : Nat) : Int), zi ((l1 : Nat) : Int), zi ((f2 : Nat) : Int), zi ((l2 : Nat) : Int)], zAI ct aS 3888 (zU (mhF g u cnt) ((72 + (u - 1)) + 9) ((mhF g u cnt) (72 + (u - 1)))), zAI ct aX 80 (zN tx)] rfl (by omega) ⟨by omega, by omega⟩ rfl ?_
                refine z_iinc (v := ((((u : Nat) : Int) - 1) + (-1))) Z dX7_makes_99 6 [(6, zi ((((u : Nat) : Int) - 1) + (-1))), (0, .ref h0), (1, zi ((a : Nat) : Int)), (2, zi ((z : Nat) : Int)), (3, zi (g 1)), (4, zi ((hhF tx a z : Nat) : Int)), (5, zi ((pl : Nat) : Int))] rfl (rfl) (by decide) rfl ?_
                refine z_goto Z 66 dX7_makes_102 (by decide) ?_
                refine z_lsub [1, 2, 3, 4, 5, 6, 0] [(0, .ref h0), (1, zi ((a : Nat) : Int)), (2, zi ((z : Nat) : Int)), (3, zi (g 1)), (4, zi ((hhF tx a z : Nat) : Int)), (5, zi ((pl : Nat) : Int)), (6, zi ((((u : Nat) : Int) - 1) + (-1)))] rfl ?_
                exact ih1 (u - 1) _ _ (by omega) (by first | rfl | omega) (mhF_s g (by omega) (by omega)) (by first | assumption | omega) (by first | assumption | omega)
          exact LOOP66 ((9 * cnt) + 1 + 1) (9 * cnt) _ _ (Nat.lt_succ_self _) (by first | rfl | omega) (mhF_0 g cnt) (by first | assumption | omega) (by first | assumption | omega)
        · refine z_iinc (v := ((pl - 1 : Nat) : Int)) Z dX7_makes_47 5 [(5, zi ((pl - 1 : Nat) : Int)), (0, .ref h0), (1, zi ((a : Nat) : Int)), (2, zi ((z : Nat) : Int)), (3, zi (g 1)), (4, zi ((hhF tx a z : Nat) : Int))] rfl (by omega) (by decide) rfl ?_
          refine z_goto Z 23 dX7_makes_50 (by decide) ?_
          refine z_lsub [1, 2, 3, 4, 5, 0] [(0, .ref h0), (1, zi ((a : Nat) : Int)), (2, zi ((z : Nat) : Int)), (3, zi (g 1)), (4, zi ((hhF tx a z : Nat) : Int)), (5, zi ((pl - 1 : Nat) : Int))] rfl ?_
          exact ih0 (pl - 1) _ (by omega) (by first | rfl | omega)  (by first | assumption | omega) ((mpF_next (by omega) (by omega)).symm.trans hpe)
  exact LOOP23 (cnt + 1 + 1) cnt _ (Nat.lt_succ_self _) (by first | rfl | omega)  (by first | assumption | omega) (rfl)
theorem zin_X7_takesOut_X7 : ∀ w ∈ wsX70, w ∈ wsX7_takesOut := by decide +kernel
theorem zlk_X7_takesOut_7 : Cond.fieldLink RX7 7 "HashedDirectoryModel" "s" "[I" ∈ wsX7_takesOut := by decide +kernel
set_option maxHeartbeats 4000000 in
set_option maxRecDepth 100000 in
theorem zc_X7_takesOut (l : Launch) (D : va_G) (ct : zCT) (h0 : Nat) (aS : Nat) (aF : Nat) (aX : Nat) (th : Int) (sg : Int) (sv : Nat) (ln : Nat) (ta : Nat) (f1 : Nat) (l1 : Nat) (f2 : Nat) (l2 : Nat) (g : Nat → Int) (cnt : Nat) (k : Nat) (hcn : g 0 = ((cnt : Nat) : Int)) (hc : cnt ≤ 40) (hg : ∀ k, k < 432 → -2 ≤ g k ∧ g k < 70000) (hhs : ∀ k, k < 40 → 0 ≤ mI g k 1 ∧ mI g k 1 < 64) (h2 : 0 ≤ g 2 ∧ g 2 < 60000) (h3 : 0 ≤ g 3 ∧ g 3 < 60000) (hk9 : k < cnt) : zMet l yX7_takesOut wsX7_takesOut ({ frames := 3, cells := 0, slots := 0, locals := 68 } : Room) D ct [.ref h0, zi ((k : Nat) : Int)] [zO h0 6 [zi th, .ref aS, zi ((sv : Nat) : Int), .ref aF, .ref aX, zi ((ln : Nat) : Int), zi ((ta : Nat) : Int), zi sg, zi ((f1 : Nat) : Int), zi ((l1 : Nat) : Int), zi ((f2 : Nat) : Int), zi ((l2 : Nat) : Int)], zAI ct aS 3888 g] (fun _ : Unit => True) (fun _ => none) (fun _ => [zO h0 6 [zi th, .ref aS, zi ((sv : Nat) : Int), .ref aF, .ref aX, zi ((ln : Nat) : Int), zi ((ta : Nat) : Int), zi sg, zi ((f1 : Nat) : Int), zi ((l1 : Nat) : Int), zi ((f2 : Nat) : Int), zi ((l2 : Nat) : Int)], zAI ct aS 3888 (mtR g cnt k)]) 0 0 := by
  refine zMet_v (cc := cX7_takesOut) (maxL := 4) (by decide) rfl (Nat.le_of_ble_eq_true rfl) ?_
  intro p e s m below meth c A Q Z hnm hR
  refine z_eqs _ [(0, .ref h0), (1, zi ((k : Nat) : Int))] _ rfl rfl rfl ?_
  have hs9 := hhs k (by omega)
  refine z_aload_n Z dX7_takesOut_0 0 rfl ?_
  refine z_iload_n Z dX7_takesOut_1 1 rfl ?_
  refine z_iconst (v := 1) Z dX7_takesOut_2 rfl ?_
  refine z_callVu (rest := []) Z dX7_takesOut_3 6 0 _ _ rfl rfl rfl (zc_X7_of l D ct (h0) (aS) (aF) (aX) (th) (sg) (sv) (ln) (ta) (f1) (l1) (f2) (l2) (g) (k) (1) (by first | assumption | omega) (by first | assumption | omega)) (cwV 2 Z.1.2.2.2.2 gX7_takesOut_X7_of rfl rfl rfl (by decide +kernel) ⟨Nat.le_of_ble_eq_true rfl, Nat.le_of_ble_eq_true rfl⟩) rfl (Nat.le_of_ble_eq_true rfl) ⟨Nat.le_of_ble_eq_true rfl, Nat.le_of_ble_eq_true rfl⟩ [true, true] [zO h0 6 [zi th, .ref aS, zi ((sv : Nat) : Int), .ref aF, .ref aX, zi ((ln : Nat) : Int), zi ((ta : Nat) : Int), zi sg, zi ((f1 : Nat) : Int), zi ((l1 : Nat) : Int), zi ((f2 : Nat) : Int), zi ((l2 : Nat) : Int)], zAI ct aS 3888 g] [zi (mI g k 1)] rfl rfl rfl rfl ?_
  refine z_top (y := (((mI g k 1).toNat : Nat) : Int)) (by omega) ?_
  refine z_istore_n Z dX7_takesOut_6 [(2, zi (((mI g k 1).toNat : Nat) : Int)), (0, .ref h0), (1, zi ((k : Nat) : Int))] (by decide) rfl ?_
  refine z_aload_n Z dX7_takesOut_7 1 rfl ?_
  refine z_get Z dX7_takesOut_8 zin_X7_takesOut_X7 0 1 rfl rfl (by decide) zlk_X7_takesOut_7 rfl ?_
  refine z_iconst (v := 0) Z dX7_takesOut_11 rfl ?_
  refine z_dup2 Z dX7_takesOut_12 rfl rfl ?_
  refine z_iald Z dX7_takesOut_13 1 (0) rfl (by omega) ⟨by omega, by omega⟩ ?_
  have he1 := hg (0) (by omega)
  refine z_top (y := ((cnt : Nat) : Int)) (hcn.symm) ?_
  refine z_iconst (v := 1) Z dX7_takesOut_14 rfl ?_
  refine z_isub Z dX7_takesOut_15 ?_
  refine z_top (y := ((cnt - 1 : Nat) : Int)) (by omega) ?_
  refine z_iast Z dX7_takesOut_16 1 (0) [zO h0 6 [zi th, .ref aS, zi ((sv : Nat) : Int), .ref aF, .ref aX, zi ((ln : Nat) : Int), zi ((ta : Nat) : Int), zi sg, zi ((f1 : Nat) : Int), zi ((l1 : Nat) : Int), zi ((f2 : Nat) : Int), zi ((l2 : Nat) : Int)], zAI ct aS 3888 (zU g 0 ((cnt - 1 : Nat) : Int))] rfl (by omega) ⟨by omega, by omega⟩ rfl ?_
  refine z_bipush (v := 9) Z dX7_takesOut_17 (by decide +kernel) ?_
  refine z_iload_n Z dX7_takesOut_19 2 rfl ?_
  refine z_imul Z dX7_takesOut_20 ?_
  refine z_top (y := ((9 * k : Nat) : Int)) (by omega) ?_
  refine z_istore_n Z dX7_takesOut_21 [(3, zi ((9 * k : Nat) : Int)), (2, zi (((mI g k 1).toNat : Nat) : Int)), (0, .ref h0), (1, zi ((k : Nat) : Int))] (by decide) rfl ?_
  refine z_lsub [2, 3, 1, 0] [(0, .ref h0), (1, zi ((k : Nat) : Int)), (2, zi (((mI g k 1).toNat : Nat) : Int)), (3, zi ((9 * k : Nat) : Int))] rfl ?_
  have LOOP22 : ∀ (N0 : Nat) (u : Nat) (x3 : Int) (y1g : Nat → Int), 9 * cnt - u < N0 → x3 = ((u : Nat) : Int) → y1g = mtF g cnt k u → (9 * k ≤ u) → (u ≤ 9 * (cnt - 1)) → zW p l e ({ frames := 3, cells := 0, slots := 0, locals := 68 } : Room) s m ([.ref h0, zi ((k : Nat) : Int)] : List Value).toArray below meth c D A 4 Q 0 0 [zO h0 6 [zi th, .ref aS, zi ((sv : Nat) : Int), .ref aF, .ref aX, zi ((ln : Nat) : Int), zi ((ta : Nat) : Int), zi sg, zi ((f1 : Nat) : Int), zi ((l1 : Nat) : Int), zi ((f2 : Nat) : Int), zi ((l2 : Nat) : Int)], zAI ct aS 3888 y1g] [(0, .ref h0), (1, zi ((k : Nat) : Int)), (2, zi (((mI g k 1).toNat : Nat) : Int)), (3, zi x3)] 22 [] := by
    intro N0
    induction N0 with
    | zero => intro u x3 y1g hm0; exact absurd hm0 (Nat.not_lt_zero _)
    | succ N0 ih0 =>
      intro u x3 y1g hm0 ex3 ey1g hu hu2
      subst ex3
      subst ey1g
      refine z_iload_n Z dX7_takesOut_22 3 rfl ?_
      refine z_bipush (v := 9) Z dX7_takesOut_23 (by decide +kernel) ?_
      refine z_aload_n Z dX7_takesOut_25 0 rfl ?_
      refine z_get Z dX7_takesOut_26 zin_X7_takesOut_X7 0 1 rfl rfl (by decide) zlk_X7_takesOut_7 rfl ?_
      refine z_iconst (v := 0) Z dX7_takesOut_29 rfl ?_
      refine z_iald Z dX7_takesOut_30 1 (0) rfl (by omega) ⟨by omega, by omega⟩ ?_
      refine z_top (y := ((cnt - 1 : Nat) : Int)) ((mtF_z _ _ _ _).symm) ?_
      refine z_imul Z dX7_takesOut_31 ?_
      refine z_top (y := ((9 * (cnt - 1) : Nat) : Int)) (by omega) ?_
      refine z_icmp_ge Z 62 dX7_takesOut_32 (by decide) (by omega) (by omega) (fun h32 => ?_) (fun h32 => ?_)
      · refine z_eqs [zO h0 6 [zi th, .ref aS, zi ((sv : Nat) : Int), .ref aF, .ref aX, zi ((ln : Nat) : Int), zi ((ta : Nat) : Int), zi sg, zi ((f1 : Nat) : Int), zi ((l1 : Nat) : Int), zi ((f2 : Nat) : Int), zi ((l2 : Nat) : Int)], zAI ct aS 3888 (mtF g cnt k (9 * (cnt - 1)))] _ _ (by rw [show u = 9 * (cnt - 1) from by omega]) rfl rfl ?_
        refine z_aload_n Z dX7_takesOut_62 0 rfl ?_
        refine z_iload_n Z dX7_takesOut_63 2 rfl ?_
        refine z_callVu (rest := []) Z dX7_takesOut_64 6 0 _ _ rfl rfl rfl (zc_X7_mergesFor l D ct (h0) (aS) (aF) (aX) (th) (sg) (sv) (ln) (ta) (f1) (l1) (f2) (l2) (mtF g cnt k (9 * (cnt - 1))) (cnt - 1) ((mI g k 1).toNat) (mtF_z _ _ _ _) (by omega) (mtF_rg hg hc) (mtF_hs hhs hc) (by omega) (by rw [mtF_lo _ _ _ _ (by omega) (by omega)]; exact h2) (by rw [mtF_lo _ _ _ _ (by omega) (by omega)]; exact h3)) (cwV 1 Z.1.2.2.2.2 gX7_takesOut_X7_mergesFor rfl rfl rfl (by decide +kernel) ⟨Nat.le_of_ble_eq_true rfl, Nat.le_of_ble_eq_true rfl⟩) rfl (Nat.le_of_ble_eq_true rfl) ⟨Nat.le_of_ble_eq_true rfl, Nat.le_of_ble_eq_true rfl⟩ [true, true] [zO h0 6 [zi th, .ref aS, zi ((sv : Nat) : Int), .ref aF, .ref aX, zi ((ln : Nat) : Int), zi ((ta : Nat) : Int), zi sg, zi ((f1 : Nat) : Int), zi ((l1 : Nat) : Int), zi ((f2 : Nat) : Int), zi ((l2 : Nat) : Int)], zAI ct aS 3888 (mgM ((mI g k 1).toNat) (cnt - 1) (dpF (mtF g cnt k (9 * (cnt - 1))) ((mI g k 1).toNat) 6 0) (mtF g cnt k (9 * (cnt - 1))))] [] rfl rfl rfl rfl ?_
        refine z_eqs [zO h0 6 [zi th, .ref aS, zi ((sv : Nat) : Int), .ref aF, .ref aX, zi ((ln : Nat) : Int), zi ((ta : Nat) : Int), zi sg, zi ((f1 : Nat) : Int), zi ((l1 : Nat) : Int), zi ((f2 : Nat) : Int), zi ((l2 : Nat) : Int)], zAI ct aS 3888 (mtR g cnt k)] _ [] (rfl) rfl (rfl) ?_
        exact hR _ _ () trivial dX7_takesOut_67
      · refine z_aload_n Z dX7_takesOut_35 0 rfl ?_
        refine z_get Z dX7_takesOut_36 zin_X7_takesOut_X7 0 1 rfl rfl (by decide) zlk_X7_takesOut_7 rfl ?_
        refine z_bipush (v := 72) Z dX7_takesOut_39 (by decide +kernel) ?_
        refine z_iload_n Z dX7_takesOut_41 3 rfl ?_
        refine z_iadd Z dX7_takesOut_42 ?_
        refine z_top (y := ((72 + u : Nat) : Int)) (by omega) ?_
        refine z_aload_n Z dX7_takesOut_43 0 rfl ?_
        refine z_get Z dX7_takesOut_44 zin_X7_takesOut_X7 0 1 rfl rfl (by decide) zlk_X7_takesOut_7 rfl ?_
        refine z_bipush (v := 72) Z dX7_takesOut_47 (by decide +kernel) ?_
        refine z_iload_n Z dX7_takesOut_49 3 rfl ?_
        refine z_iadd Z dX7_takesOut_50 ?_
        refine z_top (y := ((72 + u : Nat) : Int)) (by omega) ?_
        refine z_bipush (v := 9) Z dX7_takesOut_51 (by decide +kernel) ?_
        refine z_iadd Z dX7_takesOut_53 ?_
        refine z_top (y := (((72 + u) + 9 : Nat) : Int)) (by omega) ?_
        refine z_iald Z dX7_takesOut_54 1 ((72 + u) + 9) rfl (rfl) ⟨by omega, by omega⟩ ?_
        refine z_iast Z dX7_takesOut_55 1 (72 + u) [zO h0 6 [zi th, .ref aS, zi ((sv : Nat) : Int), .ref aF, .ref aX, zi ((ln : Nat) : Int), zi ((ta : Nat) : Int), zi sg, zi ((f1 : Nat) : Int), zi ((l1 : Nat) : Int), zi ((f2 : Nat) : Int), zi ((l2 : Nat) : Int)], zAI ct aS 3888 (zU (mtF g cnt k u) (72 + u) ((mtF g cnt k u) ((72 + u) + 9)))] rfl (rfl) ⟨by omega, by omega⟩ rfl ?_
        refine z_iinc (v := ((u + 1 : Nat) : Int)) Z dX7_takesOut_56 3 [(3, zi ((u + 1 : Nat) : Int)), (0, .ref h0), (1, zi ((k : Nat) : Int)), (2, zi (((mI g k 1).toNat : Nat) : Int))] rfl (by omega) (by decide) rfl ?_
        refine z_goto Z 22 dX7_takesOut_59 (by decide) ?_
        refine z_lsub [1, 2, 3, 0] [(0, .ref h0), (1, zi ((k : Nat) : Int)), (2, zi (((mI g k 1).toNat : Nat) : Int)), (3, zi ((u + 1 : Nat) : Int))] rfl ?_
        exact ih0 (u + 1) _ _ (by omega) (by first | rfl | omega) (mtF_s g cnt (by omega)) (by first | assumption | omega) (by first | assumption | omega)
  exact LOOP22 (9 * cnt - (9 * k) + 1) (9 * k) _ _ (Nat.lt_succ_self _) (by first | rfl | omega) (mtF_0 g cnt k) (by first | assumption | omega) (by first | assumption | omega)
theorem zin_X7_canMake_X7 : ∀ w ∈ wsX70, w ∈ wsX7_canMake := by decide +kernel
theorem zlk_X7_canMake_7 : Cond.fieldLink RX7 7 "HashedDirectoryModel" "s" "[I" ∈ wsX7_canMake := by decide +kernel
set_option maxHeartbeats 4000000 in
set_option maxRecDepth 100000 in
theorem zc_X7_canMake (l : Launch) (D : va_G) (ct : zCT) (h0 : Nat) (aS : Nat) (aF : Nat) (aX : Nat) (th : Int) (sg : Int) (sv : Nat) (ln : Nat) (ta : Nat) (f1 : Nat) (l1 : Nat) (f2 : Nat) (l2 : Nat) (g : Nat → Int) (tx : Nat → Nat) (cnt : Nat) (a : Nat) (z : Nat) (hcn : g 0 = ((cnt : Nat) : Int)) (hc : cnt ≤ 40) (hg : ∀ k, k < 432 → -2 ≤ g k ∧ g k < 70000) (ht : ∀ j, j < 80 → tx j < 128) (haz : a + z ≤ 80) (hz : z ≤ 6) : zMet l yX7_canMake wsX7_canMake ({ frames := 2, cells := 0, slots := 0, locals := 47 } : Room) D ct [.ref h0, zi ((a : Nat) : Int), zi ((z : Nat) : Int)] [zO h0 6 [zi th, .ref aS, zi ((sv : Nat) : Int), .ref aF, .ref aX, zi ((ln : Nat) : Int), zi ((ta : Nat) : Int), zi sg, zi ((f1 : Nat) : Int), zi ((l1 : Nat) : Int), zi ((f2 : Nat) : Int), zi ((l2 : Nat) : Int)], zAI ct aS 3888 g, zAI ct aX 80 (zN tx)] (fun _ : Unit => True) (fun _ => some (zi (zb (decide (fo2 (mN g tx a z) cnt = -2 ∧ g 1 < 1000))))) (fun _ => [zO h0 6 [zi th, .ref aS, zi ((sv : Nat) : Int), .ref aF, .ref aX, zi ((ln : Nat) : Int), zi ((ta : Nat) : Int), zi sg, zi ((f1 : Nat) : Int), zi ((l1 : Nat) : Int), zi ((f2 : Nat) : Int), zi ((l2 : Nat) : Int)], zAI ct aS 3888 g, zAI ct aX 80 (zN tx)]) 0 0 := by
  refine zMet_z (cc := cX7_canMake) (maxL := 3) (r := fun _ => zb (decide (fo2 (mN g tx a z) cnt = -2 ∧ g 1 < 1000))) (by decide) rfl (Nat.le_of_ble_eq_true rfl) (fun _ _ => zb_n _) ?_
  intro p e s m below meth c A Q Z hnm hR
  refine z_eqs _ [(0, .ref h0), (1, zi ((a : Nat) : Int)), (2, zi ((z : Nat) : Int))] _ rfl rfl rfl ?_
  refine z_aload_n Z dX7_canMake_0 0 rfl ?_
  refine z_iload_n Z dX7_canMake_1 1 rfl ?_
  refine z_iload_n Z dX7_canMake_2 2 rfl ?_
  refine z_callVu (rest := []) Z dX7_canMake_3 6 0 _ _ rfl rfl rfl (zc_X7_placeOfName l D ct (h0) (aS) (aF) (aX) (th) (sg) (sv) (ln) (ta) (f1) (l1) (f2) (l2) (g) (tx) (cnt) (a) (z) (by first | assumption | omega) (by first | assumption | omega) (by first | assumption | omega) (by first | assumption | omega) (by first | assumption | omega) (by first | assumption | omega)) (cwV 2 Z.1.2.2.2.2 gX7_canMake_X7_placeOfName rfl rfl rfl (by decide +kernel) ⟨Nat.le_of_ble_eq_true rfl, Nat.le_of_ble_eq_true rfl⟩) rfl (Nat.le_of_ble_eq_true rfl) ⟨Nat.le_of_ble_eq_true rfl, Nat.le_of_ble_eq_true rfl⟩ [true, true, true] [zO h0 6 [zi th, .ref aS, zi ((sv : Nat) : Int), .ref aF, .ref aX, zi ((ln : Nat) : Int), zi ((ta : Nat) : Int), zi sg, zi ((f1 : Nat) : Int), zi ((l1 : Nat) : Int), zi ((f2 : Nat) : Int), zi ((l2 : Nat) : Int)], zAI ct aS 3888 g, zAI ct aX 80 (zN tx)] [zi (fo2 (mN g tx a z) cnt)] rfl rfl rfl rfl ?_
  have hf9 := fo2_rg (mN g tx a z) cnt
  refine z_bipush (v := -2) Z dX7_canMake_6 (by decide +kernel) ?_
  refine z_icmp_ne Z 27 dX7_canMake_8 (by decide) (by omega) (by omega) (fun h8 => ?_) (fun h8 => ?_)
  · refine z_iconst (v := 0) Z dX7_canMake_27 rfl ?_
    refine z_eqs [zO h0 6 [zi th, .ref aS, zi ((sv : Nat) : Int), .ref aF, .ref aX, zi ((ln : Nat) : Int), zi ((ta : Nat) : Int), zi sg, zi ((f1 : Nat) : Int), zi ((l1 : Nat) : Int), zi ((f2 : Nat) : Int), zi ((l2 : Nat) : Int)], zAI ct aS 3888 g, zAI ct aX 80 (zN tx)] _ [zi (zb (decide (fo2 (mN g tx a z) cnt = -2 ∧ g 1 < 1000)))] (rfl) rfl (congrArg (fun z => [zi z]) (zb_np _ (by omega))) ?_
    exact hR _ _ () trivial dX7_canMake_28
  · refine z_aload_n Z dX7_canMake_11 0 rfl ?_
    refine z_get Z dX7_canMake_12 zin_X7_canMake_X7 0 1 rfl rfl (by decide) zlk_X7_canMake_7 rfl ?_
    refine z_iconst (v := 1) Z dX7_canMake_15 rfl ?_
    refine z_iald Z dX7_canMake_16 1 (1) rfl (by omega) ⟨by omega, by omega⟩ ?_
    have he1 := hg (1) (by omega)
    refine z_sipush (v := 1000) Z dX7_canMake_17 (by decide +kernel) ?_
    refine z_icmp_ge Z 27 dX7_canMake_20 (by decide) (by omega) (by omega) (fun h20 => ?_) (fun h20 => ?_)
    · refine z_iconst (v := 0) Z dX7_canMake_27 rfl ?_
      refine z_eqs [zO h0 6 [zi th, .ref aS, zi ((sv : Nat) : Int), .ref aF, .ref aX, zi ((ln : Nat) : Int), zi ((ta : Nat) : Int), zi sg, zi ((f1 : Nat) : Int), zi ((l1 : Nat) : Int), zi ((f2 : Nat) : Int), zi ((l2 : Nat) : Int)], zAI ct aS 3888 g, zAI ct aX 80 (zN tx)] _ [zi (zb (decide (fo2 (mN g tx a z) cnt = -2 ∧ g 1 < 1000)))] (rfl) rfl (congrArg (fun z => [zi z]) (zb_np _ (by omega))) ?_
      exact hR _ _ () trivial dX7_canMake_28
    · refine z_iconst (v := 1) Z dX7_canMake_23 rfl ?_
      refine z_goto Z 28 dX7_canMake_24 (by decide) ?_
      refine z_eqs [zO h0 6 [zi th, .ref aS, zi ((sv : Nat) : Int), .ref aF, .ref aX, zi ((ln : Nat) : Int), zi ((ta : Nat) : Int), zi sg, zi ((f1 : Nat) : Int), zi ((l1 : Nat) : Int), zi ((f2 : Nat) : Int), zi ((l2 : Nat) : Int)], zAI ct aS 3888 g, zAI ct aX 80 (zN tx)] _ [zi (zb (decide (fo2 (mN g tx a z) cnt = -2 ∧ g 1 < 1000)))] (rfl) rfl (congrArg (fun z => [zi z]) (zb_p _ (by omega))) ?_
      exact hR _ _ () trivial dX7_canMake_28
theorem zin_X7_copies_X7 : ∀ w ∈ wsX70, w ∈ wsX7_copies := by decide +kernel
theorem zlk_X7_copies_7 : Cond.fieldLink RX7 7 "HashedDirectoryModel" "s" "[I" ∈ wsX7_copies := by decide +kernel
set_option maxHeartbeats 4000000 in
set_option maxRecDepth 100000 in
theorem zc_X7_copies (l : Launch) (D : va_G) (ct : zCT) (h0 : Nat) (aS : Nat) (aF : Nat) (aX : Nat) (th : Int) (sg : Int) (sv : Nat) (ln : Nat) (ta : Nat) (f1 : Nat) (l1 : Nat) (f2 : Nat) (l2 : Nat) (g : Nat → Int) (f : Nat) (t : Nat) (hf : f < 9) (ht9 : t < 9) (hft : f ≠ t) : zMet l yX7_copies wsX7_copies ({ frames := 0, cells := 0, slots := 0, locals := 0 } : Room) D ct [.ref h0, zi ((f : Nat) : Int), zi ((t : Nat) : Int)] [zO h0 6 [zi th, .ref aS, zi ((sv : Nat) : Int), .ref aF, .ref aX, zi ((ln : Nat) : Int), zi ((ta : Nat) : Int), zi sg, zi ((f1 : Nat) : Int), zi ((l1 : Nat) : Int), zi ((f2 : Nat) : Int), zi ((l2 : Nat) : Int)], zAI ct aS 3888 g] (fun _ : Unit => True) (fun _ => none) (fun _ => [zO h0 6 [zi th, .ref aS, zi ((sv : Nat) : Int), .ref aF, .ref aX, zi ((ln : Nat) : Int), zi ((ta : Nat) : Int), zi sg, zi ((f1 : Nat) : Int), zi ((l1 : Nat) : Int), zi ((f2 : Nat) : Int), zi ((l2 : Nat) : Int)], zAI ct aS 3888 (cpF g f t 432)]) 0 0 := by
  refine zMet_v (cc := cX7_copies) (maxL := 4) (by decide) rfl (Nat.le_of_ble_eq_true rfl) ?_
  intro p e s m below meth c A Q Z hnm hR
  refine z_eqs _ [(0, .ref h0), (1, zi ((f : Nat) : Int)), (2, zi ((t : Nat) : Int))] _ rfl rfl rfl ?_
  refine z_iconst (v := 0) Z dX7_copies_0 rfl ?_
  refine z_istore_n Z dX7_copies_1 [(3, zi 0), (0, .ref h0), (1, zi ((f : Nat) : Int)), (2, zi ((t : Nat) : Int))] (by decide) rfl ?_
  refine z_lsub [1, 2, 3, 0] [(0, .ref h0), (1, zi ((f : Nat) : Int)), (2, zi ((t : Nat) : Int)), (3, zi 0)] rfl ?_
  have LOOP2 : ∀ (N0 : Nat) (i : Nat) (x3 : Int) (y1g : Nat → Int), 433 - i < N0 → x3 = ((i : Nat) : Int) → y1g = cpF g f t i → (i ≤ 432) → zW p l e ({ frames := 0, cells := 0, slots := 0, locals := 0 } : Room) s m ([.ref h0, zi ((f : Nat) : Int), zi ((t : Nat) : Int)] : List Value).toArray below meth c D A 4 Q 0 0 [zO h0 6 [zi th, .ref aS, zi ((sv : Nat) : Int), .ref aF, .ref aX, zi ((ln : Nat) : Int), zi ((ta : Nat) : Int), zi sg, zi ((f1 : Nat) : Int), zi ((l1 : Nat) : Int), zi ((f2 : Nat) : Int), zi ((l2 : Nat) : Int)], zAI ct aS 3888 y1g] [(0, .ref h0), (1, zi ((f : Nat) : Int)), (2, zi ((t : Nat) : Int)), (3, zi x3)] 2 [] := by
    intro N0
    induction N0 with
    | zero => intro i x3 y1g hm0; exact absurd hm0 (Nat.not_lt_zero _)
    | succ N0 ih0 =>
      intro i x3 y1g hm0 ex3 ey1g hi
      subst ex3
      subst ey1g
      refine z_iload_n Z dX7_copies_2 3 rfl ?_
      refine z_sipush (v := 432) Z dX7_copies_3 (by decide +kernel) ?_
      refine z_icmp_ge Z 39 dX7_copies_6 (by decide) (by omega) (by omega) (fun h6 => ?_) (fun h6 => ?_)
      · refine z_eqs [zO h0 6 [zi th, .ref aS, zi ((sv : Nat) : Int), .ref aF, .ref aX, zi ((ln : Nat) : Int), zi ((ta : Nat) : Int), zi sg, zi ((f1 : Nat) : Int), zi ((l1 : Nat) : Int), zi ((f2 : Nat) : Int), zi ((l2 : Nat) : Int)], zAI ct aS 3888 (cpF g f t 432)] _ [] (by rw [show i = 432 from by omega]) rfl (rfl) ?_
        exact hR _ _ () trivial dX7_copies_39
      · refine z_aload_n Z dX7_copies_9 0 rfl ?_
        refine z_get Z dX7_copies_10 zin_X7_copies_X7 0 1 rfl rfl (by decide) zlk_X7_copies_7 rfl ?_
        refine z_sipush (v := 432) Z dX7_copies_13 (by decide +kernel) ?_
        refine z_iload_n Z dX7_copies_16 2 rfl ?_
        refine z_imul Z dX7_copies_17 ?_
        refine z_top (y := ((432 * t : Nat) : Int)) (by omega) ?_
        refine z_iload_n Z dX7_copies_18 3 rfl ?_
        refine z_iadd Z dX7_copies_19 ?_
        refine z_top (y := (((432 * t) + i : Nat) : Int)) (by omega) ?_
        refine z_aload_n Z dX7_copies_20 0 rfl ?_
        refine z_get Z dX7_copies_21 zin_X7_copies_X7 0 1 rfl rfl (by decide) zlk_X7_copies_7 rfl ?_
        refine z_sipush (v := 432) Z dX7_copies_24 (by decide +kernel) ?_
        refine z_iload_n Z dX7_copies_27 1 rfl ?_
        refine z_imul Z dX7_copies_28 ?_
        refine z_top (y := ((432 * f : Nat) : Int)) (by omega) ?_
        refine z_iload_n Z dX7_copies_29 3 rfl ?_
        refine z_iadd Z dX7_copies_30 ?_
        refine z_top (y := (((432 * f) + i : Nat) : Int)) (by omega) ?_
        refine z_iald Z dX7_copies_31 1 ((432 * f) + i) rfl (rfl) ⟨by omega, by omega⟩ ?_
        refine z_iast Z dX7_copies_32 1 ((432 * t) + i) [zO h0 6 [zi th, .ref aS, zi ((sv : Nat) : Int), .ref aF, .ref aX, zi ((ln : Nat) : Int), zi ((ta : Nat) : Int), zi sg, zi ((f1 : Nat) : Int), zi ((l1 : Nat) : Int), zi ((f2 : Nat) : Int), zi ((l2 : Nat) : Int)], zAI ct aS 3888 (zU (cpF g f t i) ((432 * t) + i) ((cpF g f t i) ((432 * f) + i)))] rfl (rfl) ⟨by omega, by omega⟩ rfl ?_
        refine z_iinc (v := ((i + 1 : Nat) : Int)) Z dX7_copies_33 3 [(3, zi ((i + 1 : Nat) : Int)), (0, .ref h0), (1, zi ((f : Nat) : Int)), (2, zi ((t : Nat) : Int))] rfl (by omega) (by decide) rfl ?_
        refine z_goto Z 2 dX7_copies_36 (by decide) ?_
        refine z_lsub [1, 2, 3, 0] [(0, .ref h0), (1, zi ((f : Nat) : Int)), (2, zi ((t : Nat) : Int)), (3, zi ((i + 1 : Nat) : Int))] rfl ?_
        exact ih0 (i + 1) _ _ (by omega) (by first | rfl | omega) (cpF_s g (by omega) (by omega) (by omega) hft) (by first | assumption | omega)
  exact LOOP2 (433 - 0 + 1) 0 _ _ (Nat.lt_succ_self _) (by first | rfl | omega) (cpF_0 g f t) (by first | assumption | omega)
theorem zin_X7_keeps_X7 : ∀ w ∈ wsX70, w ∈ wsX7_keeps := by decide +kernel
theorem zlk_X7_keeps_58 : Cond.fieldLink RX7 58 "HashedDirectoryModel" "saved" "I" ∈ wsX7_keeps := by decide +kernel
set_option maxHeartbeats 4000000 in
set_option maxRecDepth 100000 in
theorem zc_X7_keeps (l : Launch) (D : va_G) (ct : zCT) (h0 : Nat) (aS : Nat) (aF : Nat) (aX : Nat) (th : Int) (sg : Int) (sv : Nat) (ln : Nat) (ta : Nat) (f1 : Nat) (l1 : Nat) (f2 : Nat) (l2 : Nat) (g : Nat → Int) (hsv : sv ≤ 6) : zMet l yX7_keeps wsX7_keeps ({ frames := 1, cells := 0, slots := 0, locals := 23 } : Room) D ct [.ref h0] [zO h0 6 [zi th, .ref aS, zi ((sv : Nat) : Int), .ref aF, .ref aX, zi ((ln : Nat) : Int), zi ((ta : Nat) : Int), zi sg, zi ((f1 : Nat) : Int), zi ((l1 : Nat) : Int), zi ((f2 : Nat) : Int), zi ((l2 : Nat) : Int)], zAI ct aS 3888 g] (fun _ : Unit => True) (fun _ => none) (fun _ => [zO h0 6 [zi th, .ref aS, zi ((kpS sv : Nat) : Int), .ref aF, .ref aX, zi ((ln : Nat) : Int), zi ((ta : Nat) : Int), zi sg, zi ((f1 : Nat) : Int), zi ((l1 : Nat) : Int), zi ((f2 : Nat) : Int), zi ((l2 : Nat) : Int)], zAI ct aS 3888 (kpG g sv)]) 0 0 := by
  refine zMet_v (cc := cX7_keeps) (maxL := 2) (by decide) rfl (Nat.le_of_ble_eq_true rfl) ?_
  intro p e s m below meth c A Q Z hnm hR
  refine z_eqs _ [(0, .ref h0)] _ rfl rfl rfl ?_
  refine z_iconst (v := 1) Z dX7_keeps_0 rfl ?_
  refine z_istore_n Z dX7_keeps_1 [(1, zi 1), (0, .ref h0)] (by decide) rfl ?_
  refine z_lsub [1, 0] [(0, .ref h0), (1, zi 1)] rfl ?_
  have LOOP2 : ∀ (N0 : Nat) (i : Nat) (x1 : Int) (y1g : Nat → Int), 7 - i < N0 → x1 = ((i : Nat) : Int) → y1g = kpL g (i - 1) → (1 ≤ i) → (i ≤ 6) → (sv ≠ 6 → i = 1) → zW p l e ({ frames := 1, cells := 0, slots := 0, locals := 23 } : Room) s m ([.ref h0] : List Value).toArray below meth c D A 2 Q 0 0 [zO h0 6 [zi th, .ref aS, zi ((sv : Nat) : Int), .ref aF, .ref aX, zi ((ln : Nat) : Int), zi ((ta : Nat) : Int), zi sg, zi ((f1 : Nat) : Int), zi ((l1 : Nat) : Int), zi ((f2 : Nat) : Int), zi ((l2 : Nat) : Int)], zAI ct aS 3888 y1g] [(0, .ref h0), (1, zi x1)] 2 [] := by
    intro N0
    induction N0 with
    | zero => intro i x1 y1g hm0; exact absurd hm0 (Nat.not_lt_zero _)
    | succ N0 ih0 =>
      intro i x1 y1g hm0 ex1 ey1g hi hi2 hi3
      subst ex1
      subst ey1g
      refine z_iload_n Z dX7_keeps_2 1 rfl ?_
      refine z_bipush (v := 6) Z dX7_keeps_3 (by decide +kernel) ?_
      refine z_icmp_ge Z 31 dX7_keeps_5 (by decide) (by omega) (by omega) (fun h5 => ?_) (fun h5 => ?_)
      · refine z_aload_n Z dX7_keeps_31 0 rfl ?_
        refine z_dup Z dX7_keeps_32 rfl ?_
        refine z_get Z dX7_keeps_33 zin_X7_keeps_X7 0 2 rfl rfl (by decide) zlk_X7_keeps_58 rfl ?_
        refine z_aload_n Z dX7_keeps_36 0 rfl ?_
        refine z_get Z dX7_keeps_37 zin_X7_keeps_X7 0 2 rfl rfl (by decide) zlk_X7_keeps_58 rfl ?_
        refine z_bipush (v := 6) Z dX7_keeps_40 (by decide +kernel) ?_
        refine z_icmp_ge Z 49 dX7_keeps_42 (by decide) (by omega) (by omega) (fun h42 => ?_) (fun h42 => ?_)
        · refine z_iconst (v := 0) Z dX7_keeps_49 rfl ?_
          refine z_iadd Z dX7_keeps_50 ?_
          refine z_top (y := ((sv + 0 : Nat) : Int)) (by omega) ?_
          refine z_put (ty := .int) Z dX7_keeps_51 zin_X7_keeps_X7 tyX7 tyX7_ok nmX7 0 2 [zO h0 6 [zi th, .ref aS, zi ((sv + 0 : Nat) : Int), .ref aF, .ref aX, zi ((ln : Nat) : Int), zi ((ta : Nat) : Int), zi sg, zi ((f1 : Nat) : Int), zi ((l1 : Nat) : Int), zi ((f2 : Nat) : Int), zi ((l2 : Nat) : Int)], zAI ct aS 3888 (kpL g (i - 1))] rfl rfl (by decide) zlk_X7_keeps_58 rfl (by decide +kernel) rfl rfl (Nat.le_of_ble_eq_true rfl) rfl ?_
          refine z_aload_n Z dX7_keeps_54 0 rfl ?_
          refine z_iconst (v := 0) Z dX7_keeps_55 rfl ?_
          refine z_aload_n Z dX7_keeps_56 0 rfl ?_
          refine z_get Z dX7_keeps_57 zin_X7_keeps_X7 0 2 rfl rfl (by decide) zlk_X7_keeps_58 rfl ?_
          refine z_callVu (rest := []) Z dX7_keeps_60 6 0 _ _ rfl rfl rfl (zc_X7_copies l D ct (h0) (aS) (aF) (aX) (th) (sg) (sv + 0) (ln) (ta) (f1) (l1) (f2) (l2) (kpL g (i - 1)) (0) (sv + 0) (by first | assumption | omega) (by omega) (by omega)) (cwV 2 Z.1.2.2.2.2 gX7_keeps_X7_copies rfl rfl rfl (by decide +kernel) ⟨Nat.le_of_ble_eq_true rfl, Nat.le_of_ble_eq_true rfl⟩) rfl (Nat.le_of_ble_eq_true rfl) ⟨Nat.le_of_ble_eq_true rfl, Nat.le_of_ble_eq_true rfl⟩ [true, true] [zO h0 6 [zi th, .ref aS, zi (((sv + 0) : Nat) : Int), .ref aF, .ref aX, zi ((ln : Nat) : Int), zi ((ta : Nat) : Int), zi sg, zi ((f1 : Nat) : Int), zi ((l1 : Nat) : Int), zi ((f2 : Nat) : Int), zi ((l2 : Nat) : Int)], zAI ct aS 3888 (cpF (kpL g (i - 1)) 0 (sv + 0) 432)] [] rfl rfl rfl rfl ?_
          refine z_eqs [zO h0 6 [zi th, .ref aS, zi ((kpS sv : Nat) : Int), .ref aF, .ref aX, zi ((ln : Nat) : Int), zi ((ta : Nat) : Int), zi sg, zi ((f1 : Nat) : Int), zi ((l1 : Nat) : Int), zi ((f2 : Nat) : Int), zi ((l2 : Nat) : Int)], zAI ct aS 3888 (kpG g sv)] _ [] (by unfold kpG kpS; rw [if_pos (show sv = 6 from by omega), if_neg (show ¬ sv < 6 from by omega), show i = 6 from by omega]; rfl) rfl (rfl) ?_
          exact hR _ _ () trivial dX7_keeps_63
        · refine z_iconst (v := 1) Z dX7_keeps_45 rfl ?_
          refine z_goto Z 50 dX7_keeps_46 (by decide) ?_
          refine z_iadd Z dX7_keeps_50 ?_
          refine z_top (y := ((sv + 1 : Nat) : Int)) (by omega) ?_
          refine z_put (ty := .int) Z dX7_keeps_51 zin_X7_keeps_X7 tyX7 tyX7_ok nmX7 0 2 [zO h0 6 [zi th, .ref aS, zi ((sv + 1 : Nat) : Int), .ref aF, .ref aX, zi ((ln : Nat) : Int), zi ((ta : Nat) : Int), zi sg, zi ((f1 : Nat) : Int), zi ((l1 : Nat) : Int), zi ((f2 : Nat) : Int), zi ((l2 : Nat) : Int)], zAI ct aS 3888 (kpL g (i - 1))] rfl rfl (by decide) zlk_X7_keeps_58 rfl (by decide +kernel) rfl rfl (Nat.le_of_ble_eq_true rfl) rfl ?_
          refine z_aload_n Z dX7_keeps_54 0 rfl ?_
          refine z_iconst (v := 0) Z dX7_keeps_55 rfl ?_
          refine z_aload_n Z dX7_keeps_56 0 rfl ?_
          refine z_get Z dX7_keeps_57 zin_X7_keeps_X7 0 2 rfl rfl (by decide) zlk_X7_keeps_58 rfl ?_
          refine z_callVu (rest := []) Z dX7_keeps_60 6 0 _ _ rfl rfl rfl (zc_X7_copies l D ct (h0) (aS) (aF) (aX) (th) (sg) (sv + 1) (ln) (ta) (f1) (l1) (f2) (l2) (kpL g (i - 1)) (0) (sv + 1) (by first | assumption | omega) (by omega) (by omega)) (cwV 2 Z.1.2.2.2.2 gX7_keeps_X7_copies rfl rfl rfl (by decide +kernel) ⟨Nat.le_of_ble_eq_true rfl, Nat.le_of_ble_eq_true rfl⟩) rfl (Nat.le_of_ble_eq_true rfl) ⟨Nat.le_of_ble_eq_true rfl, Nat.le_of_ble_eq_true rfl⟩ [true, true] [zO h0 6 [zi th, .ref aS, zi (((sv + 1) : Nat) : Int), .ref aF, .ref aX, zi ((ln : Nat) : Int), zi ((ta : Nat) : Int), zi sg, zi ((f1 : Nat) : Int), zi ((l1 : Nat) : Int), zi ((f2 : Nat) : Int), zi ((l2 : Nat) : Int)], zAI ct aS 3888 (cpF (kpL g (i - 1)) 0 (sv + 1) 432)] [] rfl rfl rfl rfl ?_
          refine z_eqs [zO h0 6 [zi th, .ref aS, zi ((kpS sv : Nat) : Int), .ref aF, .ref aX, zi ((ln : Nat) : Int), zi ((ta : Nat) : Int), zi sg, zi ((f1 : Nat) : Int), zi ((l1 : Nat) : Int), zi ((f2 : Nat) : Int), zi ((l2 : Nat) : Int)], zAI ct aS 3888 (kpG g sv)] _ [] (by unfold kpG kpS; rw [if_neg (show sv ≠ 6 from by omega), if_pos (show sv < 6 from by omega), show i = 1 from by first | exact hi3 (by omega) | omega]; rfl) rfl (rfl) ?_
          exact hR _ _ () trivial dX7_keeps_63
      · refine z_aload_n Z dX7_keeps_8 0 rfl ?_
        refine z_get Z dX7_keeps_9 zin_X7_keeps_X7 0 2 rfl rfl (by decide) zlk_X7_keeps_58 rfl ?_
        refine z_bipush (v := 6) Z dX7_keeps_12 (by decide +kernel) ?_
        refine z_icmp_ne Z 31 dX7_keeps_14 (by decide) (by omega) (by omega) (fun h14 => ?_) (fun h14 => ?_)
        · refine z_aload_n Z dX7_keeps_31 0 rfl ?_
          refine z_dup Z dX7_keeps_32 rfl ?_
          refine z_get Z dX7_keeps_33 zin_X7_keeps_X7 0 2 rfl rfl (by decide) zlk_X7_keeps_58 rfl ?_
          refine z_aload_n Z dX7_keeps_36 0 rfl ?_
          refine z_get Z dX7_keeps_37 zin_X7_keeps_X7 0 2 rfl rfl (by decide) zlk_X7_keeps_58 rfl ?_
          refine z_bipush (v := 6) Z dX7_keeps_40 (by decide +kernel) ?_
          refine z_icmp_ge Z 49 dX7_keeps_42 (by decide) (by omega) (by omega) (fun h42 => ?_) (fun h42 => ?_)
          · refine z_iconst (v := 0) Z dX7_keeps_49 rfl ?_
            refine z_iadd Z dX7_keeps_50 ?_
            refine z_top (y := ((sv + 0 : Nat) : Int)) (by omega) ?_
            refine z_put (ty := .int) Z dX7_keeps_51 zin_X7_keeps_X7 tyX7 tyX7_ok nmX7 0 2 [zO h0 6 [zi th, .ref aS, zi ((sv + 0 : Nat) : Int), .ref aF, .ref aX, zi ((ln : Nat) : Int), zi ((ta : Nat) : Int), zi sg, zi ((f1 : Nat) : Int), zi ((l1 : Nat) : Int), zi ((f2 : Nat) : Int), zi ((l2 : Nat) : Int)], zAI ct aS 3888 (kpL g (i - 1))] rfl rfl (by decide) zlk_X7_keeps_58 rfl (by decide +kernel) rfl rfl (Nat.le_of_ble_eq_true rfl) rfl ?_
            refine z_aload_n Z dX7_keeps_54 0 rfl ?_
            refine z_iconst (v := 0) Z dX7_keeps_55 rfl ?_
            refine z_aload_n Z dX7_keeps_56 0 rfl ?_
            refine z_get Z dX7_keeps_57 zin_X7_keeps_X7 0 2 rfl rfl (by decide) zlk_X7_keeps_58 rfl ?_
            refine z_callVu (rest := []) Z dX7_keeps_60 6 0 _ _ rfl rfl rfl (zc_X7_copies l D ct (h0) (aS) (aF) (aX) (th) (sg) (sv + 0) (ln) (ta) (f1) (l1) (f2) (l2) (kpL g (i - 1)) (0) (sv + 0) (by first | assumption | omega) (by omega) (by omega)) (cwV 2 Z.1.2.2.2.2 gX7_keeps_X7_copies rfl rfl rfl (by decide +kernel) ⟨Nat.le_of_ble_eq_true rfl, Nat.le_of_ble_eq_true rfl⟩) rfl (Nat.le_of_ble_eq_true rfl) ⟨Nat.le_of_ble_eq_true rfl, Nat.le_of_ble_eq_true rfl⟩ [true, true] [zO h0 6 [zi th, .ref aS, zi (((sv + 0) : Nat) : Int), .ref aF, .ref aX, zi ((ln : Nat) : Int), zi ((ta : Nat) : Int), zi sg, zi ((f1 : Nat) : Int), zi ((l1 : Nat) : Int), zi ((f2 : Nat) : Int), zi ((l2 : Nat) : Int)], zAI ct aS 3888 (cpF (kpL g (i - 1)) 0 (sv + 0) 432)] [] rfl rfl rfl rfl ?_
            refine z_eqs [zO h0 6 [zi th, .ref aS, zi ((kpS sv : Nat) : Int), .ref aF, .ref aX, zi ((ln : Nat) : Int), zi ((ta : Nat) : Int), zi sg, zi ((f1 : Nat) : Int), zi ((l1 : Nat) : Int), zi ((f2 : Nat) : Int), zi ((l2 : Nat) : Int)], zAI ct aS 3888 (kpG g sv)] _ [] (by unfold kpG kpS; rw [if_pos (show sv = 6 from by omega), if_neg (show ¬ sv < 6 from by omega), show i = 6 from by omega]; rfl) rfl (rfl) ?_
            exact hR _ _ () trivial dX7_keeps_63
          · refine z_iconst (v := 1) Z dX7_keeps_45 rfl ?_
            refine z_goto Z 50 dX7_keeps_46 (by decide) ?_
            refine z_iadd Z dX7_keeps_50 ?_
            refine z_top (y := ((sv + 1 : Nat) : Int)) (by omega) ?_
            refine z_put (ty := .int) Z dX7_keeps_51 zin_X7_keeps_X7 tyX7 tyX7_ok nmX7 0 2 [zO h0 6 [zi th, .ref aS, zi ((sv + 1 : Nat) : Int), .ref aF, .ref aX, zi ((ln : Nat) : Int), zi ((ta : Nat) : Int), zi sg, zi ((f1 : Nat) : Int), zi ((l1 : Nat) : Int), zi ((f2 : Nat) : Int), zi ((l2 : Nat) : Int)], zAI ct aS 3888 (kpL g (i - 1))] rfl rfl (by decide) zlk_X7_keeps_58 rfl (by decide +kernel) rfl rfl (Nat.le_of_ble_eq_true rfl) rfl ?_
            refine z_aload_n Z dX7_keeps_54 0 rfl ?_
            refine z_iconst (v := 0) Z dX7_keeps_55 rfl ?_
            refine z_aload_n Z dX7_keeps_56 0 rfl ?_
            refine z_get Z dX7_keeps_57 zin_X7_keeps_X7 0 2 rfl rfl (by decide) zlk_X7_keeps_58 rfl ?_
            refine z_callVu (rest := []) Z dX7_keeps_60 6 0 _ _ rfl rfl rfl (zc_X7_copies l D ct (h0) (aS) (aF) (aX) (th) (sg) (sv + 1) (ln) (ta) (f1) (l1) (f2) (l2) (kpL g (i - 1)) (0) (sv + 1) (by first | assumption | omega) (by omega) (by omega)) (cwV 2 Z.1.2.2.2.2 gX7_keeps_X7_copies rfl rfl rfl (by decide +kernel) ⟨Nat.le_of_ble_eq_true rfl, Nat.le_of_ble_eq_true rfl⟩) rfl (Nat.le_of_ble_eq_true rfl) ⟨Nat.le_of_ble_eq_true rfl, Nat.le_of_ble_eq_true rfl⟩ [true, true] [zO h0 6 [zi th, .ref aS, zi (((sv + 1) : Nat) : Int), .ref aF, .ref aX, zi ((ln : Nat) : Int), zi ((ta : Nat) : Int), zi sg, zi ((f1 : Nat) : Int), zi ((l1 : Nat) : Int), zi ((f2 : Nat) : Int), zi ((l2 : Nat) : Int)], zAI ct aS 3888 (cpF (kpL g (i - 1)) 0 (sv + 1) 432)] [] rfl rfl rfl rfl ?_
            refine z_eqs [zO h0 6 [zi th, .ref aS, zi ((kpS sv : Nat) : Int), .ref aF, .ref aX, zi ((ln : Nat) : Int), zi ((ta : Nat) : Int), zi sg, zi ((f1 : Nat) : Int), zi ((l1 : Nat) : Int), zi ((f2 : Nat) : Int), zi ((l2 : Nat) : Int)], zAI ct aS 3888 (kpG g sv)] _ [] (by unfold kpG kpS; rw [if_neg (show sv ≠ 6 from by omega), if_pos (show sv < 6 from by omega), show i = 1 from by first | exact hi3 (by omega) | omega]; rfl) rfl (rfl) ?_
            exact hR _ _ () trivial dX7_keeps_63
        · refine z_aload_n Z dX7_keeps_17 0 rfl ?_
          refine z_iload_n Z dX7_keeps_18 1 rfl ?_
          refine z_iconst (v := 1) Z dX7_keeps_19 rfl ?_
          refine z_iadd Z dX7_keeps_20 ?_
          refine z_top (y := ((i + 1 : Nat) : Int)) (by omega) ?_
          refine z_iload_n Z dX7_keeps_21 1 rfl ?_
          refine z_callVu (rest := []) Z dX7_keeps_22 6 0 _ _ rfl rfl rfl (zc_X7_copies l D ct (h0) (aS) (aF) (aX) (th) (sg) (sv) (ln) (ta) (f1) (l1) (f2) (l2) (kpL g (i - 1)) (i + 1) (i) (by first | assumption | omega) (by first | assumption | omega) (by first | assumption | omega)) (cwV 2 Z.1.2.2.2.2 gX7_keeps_X7_copies rfl rfl rfl (by decide +kernel) ⟨Nat.le_of_ble_eq_true rfl, Nat.le_of_ble_eq_true rfl⟩) rfl (Nat.le_of_ble_eq_true rfl) ⟨Nat.le_of_ble_eq_true rfl, Nat.le_of_ble_eq_true rfl⟩ [true, true] [zO h0 6 [zi th, .ref aS, zi ((sv : Nat) : Int), .ref aF, .ref aX, zi ((ln : Nat) : Int), zi ((ta : Nat) : Int), zi sg, zi ((f1 : Nat) : Int), zi ((l1 : Nat) : Int), zi ((f2 : Nat) : Int), zi ((l2 : Nat) : Int)], zAI ct aS 3888 (cpF (kpL g (i - 1)) (i + 1) i 432)] [] rfl rfl rfl rfl ?_
          refine z_iinc (v := ((i + 1 : Nat) : Int)) Z dX7_keeps_25 1 [(1, zi ((i + 1 : Nat) : Int)), (0, .ref h0)] rfl (by omega) (by decide) rfl ?_
          refine z_goto Z 2 dX7_keeps_28 (by decide) ?_
          refine z_lsub [1, 0] [(0, .ref h0), (1, zi ((i + 1 : Nat) : Int))] rfl ?_
          exact ih0 (i + 1) _ _ (by omega) (by first | rfl | omega) (kpL_s g hi) (by first | assumption | omega) (by first | assumption | omega) (fun h9 => absurd (by omega) h9)
  exact LOOP2 (7 - 1 + 1) 1 _ _ (Nat.lt_succ_self _) (by first | rfl | omega) (rfl) (by first | assumption | omega) (by first | assumption | omega) (by first | assumption | omega)
theorem zin_X7_isName_X7 : ∀ w ∈ wsX70, w ∈ wsX7_isName := by decide +kernel
theorem zlk_X7_isName_65 : Cond.fieldLink RX7 65 "HashedDirectoryModel" "length" "I" ∈ wsX7_isName := by decide +kernel
theorem zlk_X7_isName_17 : Cond.fieldLink RX7 17 "HashedDirectoryModel" "text" "[I" ∈ wsX7_isName := by decide +kernel
set_option maxHeartbeats 4000000 in
set_option maxRecDepth 100000 in
theorem zc_X7_isName (l : Launch) (D : va_G) (ct : zCT) (h0 : Nat) (aS : Nat) (aF : Nat) (aX : Nat) (th : Int) (sg : Int) (sv : Nat) (ln : Nat) (ta : Nat) (f1 : Nat) (l1 : Nat) (f2 : Nat) (l2 : Nat) (tx : Nat → Nat) (ht : ∀ j, j < 80 → tx j < 128) (hln : ln ≤ 80) : zMet l yX7_isName wsX7_isName ({ frames := 1, cells := 0, slots := 0, locals := 22 } : Room) D ct [.ref h0] [zO h0 6 [zi th, .ref aS, zi ((sv : Nat) : Int), .ref aF, .ref aX, zi ((ln : Nat) : Int), zi ((ta : Nat) : Int), zi sg, zi ((f1 : Nat) : Int), zi ((l1 : Nat) : Int), zi ((f2 : Nat) : Int), zi ((l2 : Nat) : Int)], zAI ct aX 80 (zN tx)] (fun _ : Unit => True) (fun _ => some (zi (zb (decide ((1 ≤ ln ∧ ln ≤ 6) ∧ ∀ r, r < ln → 97 ≤ tx r ∧ tx r ≤ 122))))) (fun _ => [zO h0 6 [zi th, .ref aS, zi ((sv : Nat) : Int), .ref aF, .ref aX, zi ((ln : Nat) : Int), zi ((ta : Nat) : Int), zi sg, zi ((f1 : Nat) : Int), zi ((l1 : Nat) : Int), zi ((f2 : Nat) : Int), zi ((l2 : Nat) : Int)], zAI ct aX 80 (zN tx)]) 0 0 := by
  refine zMet_z (cc := cX7_isName) (maxL := 3) (r := fun _ => zb (decide ((1 ≤ ln ∧ ln ≤ 6) ∧ ∀ r, r < ln → 97 ≤ tx r ∧ tx r ≤ 122))) (by decide) rfl (Nat.le_of_ble_eq_true rfl) (fun _ _ => zb_n _) ?_
  intro p e s m below meth c A Q Z hnm hR
  refine z_eqs _ [(0, .ref h0)] _ rfl rfl rfl ?_
  refine z_aload_n Z dX7_isName_0 0 rfl ?_
  refine z_get Z dX7_isName_1 zin_X7_isName_X7 0 5 rfl rfl (by decide) zlk_X7_isName_65 rfl ?_
  refine z_iconst (v := 1) Z dX7_isName_4 rfl ?_
  refine z_bipush (v := 6) Z dX7_isName_5 (by decide +kernel) ?_
  refine z_callSu (rest := []) Z dX7_isName_7 (zc_X7_in l D ct (((ln : Nat) : Int)) (1) (6) (by first | assumption | omega) (by first | assumption | omega) (by first | assumption | omega)) (va_cwS 3 Z.1.2.2.2.2 gX7_isName_X7_in rfl rfl rfl (by decide +kernel) ⟨Nat.le_of_ble_eq_true rfl, Nat.le_of_ble_eq_true rfl⟩) rfl (Nat.le_of_ble_eq_true rfl) ⟨Nat.le_of_ble_eq_true rfl, Nat.le_of_ble_eq_true rfl⟩ [false, false] [zO h0 6 [zi th, .ref aS, zi ((sv : Nat) : Int), .ref aF, .ref aX, zi ((ln : Nat) : Int), zi ((ta : Nat) : Int), zi sg, zi ((f1 : Nat) : Int), zi ((l1 : Nat) : Int), zi ((f2 : Nat) : Int), zi ((l2 : Nat) : Int)], zAI ct aX 80 (zN tx)] [zi (zb (decide (1 ≤ ((ln : Nat) : Int) ∧ ((ln : Nat) : Int) ≤ 6)))] rfl rfl rfl rfl ?_
  refine z_istore_n Z dX7_isName_10 [(1, zi (zb (decide (1 ≤ ((ln : Nat) : Int) ∧ ((ln : Nat) : Int) ≤ 6)))), (0, .ref h0)] (by decide) rfl ?_
  refine z_iconst (v := 0) Z dX7_isName_11 rfl ?_
  refine z_istore_n Z dX7_isName_12 [(2, zi 0), (1, zi (zb (decide (1 ≤ ((ln : Nat) : Int) ∧ ((ln : Nat) : Int) ≤ 6)))), (0, .ref h0)] (by decide) rfl ?_
  refine z_lsub [2, 1, 0] [(0, .ref h0), (1, zi (zb (decide (1 ≤ ((ln : Nat) : Int) ∧ ((ln : Nat) : Int) ≤ 6)))), (2, zi 0)] rfl ?_
  have LOOP13 : ∀ (N0 : Nat) (bb : Bool) (q : Nat) (x1 : Int) (x2 : Int), ln + 1 - q < N0 → x1 = zb bb → x2 = ((q : Nat) : Int) → (q ≤ ln) → (bb = decide ((1 ≤ ln ∧ ln ≤ 6) ∧ ∀ r, r < q → 97 ≤ tx r ∧ tx r ≤ 122)) → zW p l e ({ frames := 1, cells := 0, slots := 0, locals := 22 } : Room) s m ([.ref h0] : List Value).toArray below meth c D A 3 Q 0 0 [zO h0 6 [zi th, .ref aS, zi ((sv : Nat) : Int), .ref aF, .ref aX, zi ((ln : Nat) : Int), zi ((ta : Nat) : Int), zi sg, zi ((f1 : Nat) : Int), zi ((l1 : Nat) : Int), zi ((f2 : Nat) : Int), zi ((l2 : Nat) : Int)], zAI ct aX 80 (zN tx)] [(0, .ref h0), (1, zi x1), (2, zi x2)] 13 [] := by
    intro N0
    induction N0 with
    | zero => intro bb q x1 x2 hm0; exact absurd hm0 (Nat.not_lt_zero _)
    | succ N0 ih0 =>
      intro bb q x1 x2 hm0 ex1 ex2 hq hb
      subst ex1
      subst ex2
      refine z_iload_n Z dX7_isName_13 2 rfl ?_
      refine z_aload_n Z dX7_isName_14 0 rfl ?_
      refine z_get Z dX7_isName_15 zin_X7_isName_X7 0 5 rfl rfl (by decide) zlk_X7_isName_65 rfl ?_
      refine z_icmp_ge Z 45 dX7_isName_18 (by decide) (by omega) (by omega) (fun h18 => ?_) (fun h18 => ?_)
      · have hqz : q = ln := by omega
        refine z_iload_n Z dX7_isName_45 1 rfl ?_
        refine z_eqs [zO h0 6 [zi th, .ref aS, zi ((sv : Nat) : Int), .ref aF, .ref aX, zi ((ln : Nat) : Int), zi ((ta : Nat) : Int), zi sg, zi ((f1 : Nat) : Int), zi ((l1 : Nat) : Int), zi ((f2 : Nat) : Int), zi ((l2 : Nat) : Int)], zAI ct aX 80 (zN tx)] _ [zi (zb (decide ((1 ≤ ln ∧ ln ≤ 6) ∧ ∀ r, r < ln → 97 ≤ tx r ∧ tx r ≤ 122)))] (rfl) rfl (congrArg (fun z => [zi z]) (congrArg zb (by first | rw [hb, hqz] | (rw [h22]; exact (decide_eq_false (nmO_f (hb.symm.trans h22) hq)).symm)))) ?_
        exact hR _ _ () trivial dX7_isName_46
      · refine z_iload_n Z dX7_isName_21 1 rfl ?_
        refine z_ifb_eq Z 45 dX7_isName_22 (by decide) (fun h22 => ?_) (fun h22 => ?_)
        · refine z_iload_n Z dX7_isName_45 1 rfl ?_
          refine z_eqs [zO h0 6 [zi th, .ref aS, zi ((sv : Nat) : Int), .ref aF, .ref aX, zi ((ln : Nat) : Int), zi ((ta : Nat) : Int), zi sg, zi ((f1 : Nat) : Int), zi ((l1 : Nat) : Int), zi ((f2 : Nat) : Int), zi ((l2 : Nat) : Int)], zAI ct aX 80 (zN tx)] _ [zi (zb (decide ((1 ≤ ln ∧ ln ≤ 6) ∧ ∀ r, r < ln → 97 ≤ tx r ∧ tx r ≤ 122)))] (rfl) rfl (congrArg (fun z => [zi z]) (congrArg zb (by first | rw [hb, hqz] | (rw [h22]; exact (decide_eq_false (nmO_f (hb.symm.trans h22) hq)).symm)))) ?_
          exact hR _ _ () trivial dX7_isName_46
        · refine z_aload_n Z dX7_isName_25 0 rfl ?_
          refine z_get Z dX7_isName_26 zin_X7_isName_X7 0 4 rfl rfl (by decide) zlk_X7_isName_17 rfl ?_
          refine z_iload_n Z dX7_isName_29 2 rfl ?_
          refine z_ialdN Z dX7_isName_30 1 (q) rfl (rfl) ⟨by omega, by omega⟩ ?_
          have he1 := ht (q) (by omega)
          refine z_bipush (v := 97) Z dX7_isName_31 (by decide +kernel) ?_
          refine z_bipush (v := 122) Z dX7_isName_33 (by decide +kernel) ?_
          refine z_callSu (rest := []) Z dX7_isName_35 (zc_X7_in l D ct (((tx q : Nat) : Int)) (97) (122) (by first | assumption | omega) (by first | assumption | omega) (by first | assumption | omega)) (va_cwS 3 Z.1.2.2.2.2 gX7_isName_X7_in rfl rfl rfl (by decide +kernel) ⟨Nat.le_of_ble_eq_true rfl, Nat.le_of_ble_eq_true rfl⟩) rfl (Nat.le_of_ble_eq_true rfl) ⟨Nat.le_of_ble_eq_true rfl, Nat.le_of_ble_eq_true rfl⟩ [false, false] [zO h0 6 [zi th, .ref aS, zi ((sv : Nat) : Int), .ref aF, .ref aX, zi ((ln : Nat) : Int), zi ((ta : Nat) : Int), zi sg, zi ((f1 : Nat) : Int), zi ((l1 : Nat) : Int), zi ((f2 : Nat) : Int), zi ((l2 : Nat) : Int)], zAI ct aX 80 (zN tx)] [zi (zb (decide (97 ≤ ((tx q : Nat) : Int) ∧ ((tx q : Nat) : Int) ≤ 122)))] rfl rfl rfl rfl ?_
          refine z_istore_n Z dX7_isName_38 [(1, zi (zb (decide (97 ≤ ((tx q : Nat) : Int) ∧ ((tx q : Nat) : Int) ≤ 122)))), (0, .ref h0), (2, zi ((q : Nat) : Int))] (by decide) rfl ?_
          refine z_iinc (v := ((q + 1 : Nat) : Int)) Z dX7_isName_39 2 [(2, zi ((q + 1 : Nat) : Int)), (1, zi (zb (decide (97 ≤ ((tx q : Nat) : Int) ∧ ((tx q : Nat) : Int) ≤ 122)))), (0, .ref h0)] rfl (by omega) (by decide) rfl ?_
          refine z_goto Z 13 dX7_isName_42 (by decide) ?_
          refine z_lsub [2, 1, 0] [(0, .ref h0), (1, zi (zb (decide (97 ≤ ((tx q : Nat) : Int) ∧ ((tx q : Nat) : Int) ≤ 122)))), (2, zi ((q + 1 : Nat) : Int))] rfl ?_
          exact ih0 (decide (97 ≤ ((tx q : Nat) : Int) ∧ ((tx q : Nat) : Int) ≤ 122)) (q + 1) _ _ (by omega) (by first | rfl | omega) (by first | rfl | omega)  (by first | assumption | omega) (nmO_s (hb.symm.trans h22))
  exact LOOP13 (ln + 1 - 0 + 1) (decide (1 ≤ ((ln : Nat) : Int) ∧ ((ln : Nat) : Int) ≤ 6)) 0 _ _ (Nat.lt_succ_self _) (by first | rfl | omega) (by first | rfl | omega)  (by first | assumption | omega) (nmO_0 _ _ _ rfl)
set_option maxHeartbeats 4000000 in
set_option maxRecDepth 100000 in
theorem zc_X7_isReader (l : Launch) (D : va_G) (ct : zCT) (r : Int) (hr : -2147483648 ≤ r ∧ r < 2147483648) : zMet l yX7_isReader wsX7_isReader ({ frames := 1, cells := 0, slots := 0, locals := 22 } : Room) D ct [zi r] [] (fun _ : Unit => True) (fun _ => some (zi (zb (decide (0 ≤ r ∧ r ≤ 3))))) (fun _ => []) 0 0 := by
  refine zMet_z (cc := cX7_isReader) (maxL := 1) (r := fun _ => zb (decide (0 ≤ r ∧ r ≤ 3))) (by decide) rfl (Nat.le_of_ble_eq_true rfl) (fun _ _ => zb_n _) ?_
  intro p e s m below meth c A Q Z hnm hR
  refine z_eqs _ [(0, zi r)] _ rfl rfl rfl ?_
  refine z_iload_n Z dX7_isReader_0 0 rfl ?_
  refine z_iconst (v := 0) Z dX7_isReader_1 rfl ?_
  refine z_iconst (v := 3) Z dX7_isReader_2 rfl ?_
  refine z_callSu (rest := []) Z dX7_isReader_3 (zc_X7_in l D ct (r) (0) (3) (by first | assumption | omega) (by first | assumption | omega) (by first | assumption | omega)) (va_cwS 3 Z.1.2.2.2.2 gX7_isReader_X7_in rfl rfl rfl (by decide +kernel) ⟨Nat.le_of_ble_eq_true rfl, Nat.le_of_ble_eq_true rfl⟩) rfl (Nat.le_of_ble_eq_true rfl) ⟨Nat.le_of_ble_eq_true rfl, Nat.le_of_ble_eq_true rfl⟩ [] [] [zi (zb (decide (0 ≤ r ∧ r ≤ 3)))] rfl rfl rfl rfl ?_
  refine z_eqs [] _ [zi (zb (decide (0 ≤ r ∧ r ≤ 3)))] (rfl) rfl (rfl) ?_
  exact hR _ _ () trivial dX7_isReader_6
theorem zin_X7_isOpen_X7 : ∀ w ∈ wsX70, w ∈ wsX7_isOpen := by decide +kernel
theorem zlk_X7_isOpen_7 : Cond.fieldLink RX7 7 "HashedDirectoryModel" "s" "[I" ∈ wsX7_isOpen := by decide +kernel
set_option maxHeartbeats 4000000 in
set_option maxRecDepth 100000 in
theorem zc_X7_isOpen (l : Launch) (D : va_G) (ct : zCT) (h0 : Nat) (aS : Nat) (aF : Nat) (aX : Nat) (th : Int) (sg : Int) (sv : Nat) (ln : Nat) (ta : Nat) (f1 : Nat) (l1 : Nat) (f2 : Nat) (l2 : Nat) (g : Nat → Int) (r : Int) (hg : ∀ k, k < 432 → -2 ≤ g k ∧ g k < 70000) (hr : -2147483648 ≤ r ∧ r < 2147483648) : zMet l yX7_isOpen wsX7_isOpen ({ frames := 2, cells := 0, slots := 0, locals := 42 } : Room) D ct [.ref h0, zi r] [zO h0 6 [zi th, .ref aS, zi ((sv : Nat) : Int), .ref aF, .ref aX, zi ((ln : Nat) : Int), zi ((ta : Nat) : Int), zi sg, zi ((f1 : Nat) : Int), zi ((l1 : Nat) : Int), zi ((f2 : Nat) : Int), zi ((l2 : Nat) : Int)], zAI ct aS 3888 g] (fun _ : Unit => True) (fun _ => some (zi (zb (decide ((0 ≤ r ∧ r ≤ 3) ∧ g (4 + r.toNat) ≠ -2))))) (fun _ => [zO h0 6 [zi th, .ref aS, zi ((sv : Nat) : Int), .ref aF, .ref aX, zi ((ln : Nat) : Int), zi ((ta : Nat) : Int), zi sg, zi ((f1 : Nat) : Int), zi ((l1 : Nat) : Int), zi ((f2 : Nat) : Int), zi ((l2 : Nat) : Int)], zAI ct aS 3888 g]) 0 0 := by
  refine zMet_z (cc := cX7_isOpen) (maxL := 2) (r := fun _ => zb (decide ((0 ≤ r ∧ r ≤ 3) ∧ g (4 + r.toNat) ≠ -2))) (by decide) rfl (Nat.le_of_ble_eq_true rfl) (fun _ _ => zb_n _) ?_
  intro p e s m below meth c A Q Z hnm hR
  refine z_eqs _ [(0, .ref h0), (1, zi r)] _ rfl rfl rfl ?_
  refine z_iload_n Z dX7_isOpen_0 1 rfl ?_
  refine z_callSu (rest := []) Z dX7_isOpen_1 (zc_X7_isReader l D ct (r) (by first | assumption | omega)) (va_cwS 1 Z.1.2.2.2.2 gX7_isOpen_X7_isReader rfl rfl rfl (by decide +kernel) ⟨Nat.le_of_ble_eq_true rfl, Nat.le_of_ble_eq_true rfl⟩) rfl (Nat.le_of_ble_eq_true rfl) ⟨Nat.le_of_ble_eq_true rfl, Nat.le_of_ble_eq_true rfl⟩ [false, false] [zO h0 6 [zi th, .ref aS, zi ((sv : Nat) : Int), .ref aF, .ref aX, zi ((ln : Nat) : Int), zi ((ta : Nat) : Int), zi sg, zi ((f1 : Nat) : Int), zi ((l1 : Nat) : Int), zi ((f2 : Nat) : Int), zi ((l2 : Nat) : Int)], zAI ct aS 3888 g] [zi (zb (decide (0 ≤ r ∧ r ≤ 3)))] rfl rfl rfl rfl ?_
  refine z_ifb_eq Z 24 dX7_isOpen_4 (by decide) (fun h4 => ?_) (fun h4 => ?_)
  · have h4 := of_decide_eq_false h4
    refine z_iconst (v := 0) Z dX7_isOpen_24 rfl ?_
    refine z_eqs [zO h0 6 [zi th, .ref aS, zi ((sv : Nat) : Int), .ref aF, .ref aX, zi ((ln : Nat) : Int), zi ((ta : Nat) : Int), zi sg, zi ((f1 : Nat) : Int), zi ((l1 : Nat) : Int), zi ((f2 : Nat) : Int), zi ((l2 : Nat) : Int)], zAI ct aS 3888 g] _ [zi (zb (decide ((0 ≤ r ∧ r ≤ 3) ∧ g (4 + r.toNat) ≠ -2)))] (rfl) rfl (congrArg (fun z => [zi z]) (zb_np _ (by omega))) ?_
    exact hR _ _ () trivial dX7_isOpen_25
  · have h4 := of_decide_eq_true h4
    refine z_aload_n Z dX7_isOpen_7 0 rfl ?_
    refine z_get Z dX7_isOpen_8 zin_X7_isOpen_X7 0 1 rfl rfl (by decide) zlk_X7_isOpen_7 rfl ?_
    refine z_iconst (v := 4) Z dX7_isOpen_11 rfl ?_
    refine z_iload_n Z dX7_isOpen_12 1 rfl ?_
    refine z_iadd Z dX7_isOpen_13 ?_
    refine z_iald Z dX7_isOpen_14 1 (4 + r.toNat) rfl (by omega) ⟨by omega, by omega⟩ ?_
    have he1 := hg (4 + r.toNat) (by omega)
    refine z_bipush (v := -2) Z dX7_isOpen_15 (by decide +kernel) ?_
    refine z_icmp_eq Z 24 dX7_isOpen_17 (by decide) (by omega) (by omega) (fun h17 => ?_) (fun h17 => ?_)
    · refine z_iconst (v := 0) Z dX7_isOpen_24 rfl ?_
      refine z_eqs [zO h0 6 [zi th, .ref aS, zi ((sv : Nat) : Int), .ref aF, .ref aX, zi ((ln : Nat) : Int), zi ((ta : Nat) : Int), zi sg, zi ((f1 : Nat) : Int), zi ((l1 : Nat) : Int), zi ((f2 : Nat) : Int), zi ((l2 : Nat) : Int)], zAI ct aS 3888 g] _ [zi (zb (decide ((0 ≤ r ∧ r ≤ 3) ∧ g (4 + r.toNat) ≠ -2)))] (rfl) rfl (congrArg (fun z => [zi z]) (zb_np _ (by omega))) ?_
      exact hR _ _ () trivial dX7_isOpen_25
    · refine z_iconst (v := 1) Z dX7_isOpen_20 rfl ?_
      refine z_goto Z 25 dX7_isOpen_21 (by decide) ?_
      refine z_eqs [zO h0 6 [zi th, .ref aS, zi ((sv : Nat) : Int), .ref aF, .ref aX, zi ((ln : Nat) : Int), zi ((ta : Nat) : Int), zi sg, zi ((f1 : Nat) : Int), zi ((l1 : Nat) : Int), zi ((f2 : Nat) : Int), zi ((l2 : Nat) : Int)], zAI ct aS 3888 g] _ [zi (zb (decide ((0 ≤ r ∧ r ≤ 3) ∧ g (4 + r.toNat) ≠ -2)))] (rfl) rfl (congrArg (fun z => [zi z]) (zb_p _ (by omega))) ?_
      exact hR _ _ () trivial dX7_isOpen_25
theorem zin_X7_moves_X7 : ∀ w ∈ wsX70, w ∈ wsX7_moves := by decide +kernel
theorem zlk_X7_moves_7 : Cond.fieldLink RX7 7 "HashedDirectoryModel" "s" "[I" ∈ wsX7_moves := by decide +kernel
set_option maxHeartbeats 4000000 in
set_option maxRecDepth 100000 in
theorem zc_X7_moves (l : Launch) (D : va_G) (ct : zCT) (h0 : Nat) (aS : Nat) (aF : Nat) (aX : Nat) (th : Int) (sg : Int) (sv : Nat) (ln : Nat) (ta : Nat) (f1 : Nat) (l1 : Nat) (f2 : Nat) (l2 : Nat) (g : Nat → Int) (r : Nat) (ps : Int) (hsv : sv ≤ 6) (hr : r < 4) : zMet l yX7_moves wsX7_moves ({ frames := 2, cells := 0, slots := 0, locals := 44 } : Room) D ct [.ref h0, zi ((r : Nat) : Int), zi ps] [zO h0 6 [zi th, .ref aS, zi ((sv : Nat) : Int), .ref aF, .ref aX, zi ((ln : Nat) : Int), zi ((ta : Nat) : Int), zi sg, zi ((f1 : Nat) : Int), zi ((l1 : Nat) : Int), zi ((f2 : Nat) : Int), zi ((l2 : Nat) : Int)], zAI ct aS 3888 g] (fun _ : Unit => True) (fun _ => some (zi ((g (4 + r))))) (fun _ => [zO h0 6 [zi th, .ref aS, zi ((kpS sv : Nat) : Int), .ref aF, .ref aX, zi ((ln : Nat) : Int), zi ((ta : Nat) : Int), zi sg, zi ((f1 : Nat) : Int), zi ((l1 : Nat) : Int), zi ((f2 : Nat) : Int), zi ((l2 : Nat) : Int)], zAI ct aS 3888 (zU (kpG g sv) (4 + r) ps)]) 0 0 := by
  refine zMet_i (cc := cX7_moves) (maxL := 4) (r := fun _ => (g (4 + r))) (by decide) rfl (Nat.le_of_ble_eq_true rfl) ?_
  intro p e s m below meth c A Q Z hnm hR
  refine z_eqs _ [(0, .ref h0), (1, zi ((r : Nat) : Int)), (2, zi ps)] _ rfl rfl rfl ?_
  refine z_aload_n Z dX7_moves_0 0 rfl ?_
  refine z_callVu (rest := []) Z dX7_moves_1 6 0 _ _ rfl rfl rfl (zc_X7_keeps l D ct (h0) (aS) (aF) (aX) (th) (sg) (sv) (ln) (ta) (f1) (l1) (f2) (l2) (g) (by first | assumption | omega)) (cwV 0 Z.1.2.2.2.2 gX7_moves_X7_keeps rfl rfl rfl (by decide +kernel) ⟨Nat.le_of_ble_eq_true rfl, Nat.le_of_ble_eq_true rfl⟩) rfl (Nat.le_of_ble_eq_true rfl) ⟨Nat.le_of_ble_eq_true rfl, Nat.le_of_ble_eq_true rfl⟩ [true, true] [zO h0 6 [zi th, .ref aS, zi ((kpS sv : Nat) : Int), .ref aF, .ref aX, zi ((ln : Nat) : Int), zi ((ta : Nat) : Int), zi sg, zi ((f1 : Nat) : Int), zi ((l1 : Nat) : Int), zi ((f2 : Nat) : Int), zi ((l2 : Nat) : Int)], zAI ct aS 3888 (kpG g sv)] [] rfl rfl rfl rfl ?_
  refine z_aload_n Z dX7_moves_4 0 rfl ?_
  refine z_get Z dX7_moves_5 zin_X7_moves_X7 0 1 rfl rfl (by decide) zlk_X7_moves_7 rfl ?_
  refine z_iconst (v := 4) Z dX7_moves_8 rfl ?_
  refine z_iload_n Z dX7_moves_9 1 rfl ?_
  refine z_iadd Z dX7_moves_10 ?_
  refine z_top (y := ((4 + r : Nat) : Int)) (by omega) ?_
  refine z_iald Z dX7_moves_11 1 (4 + r) rfl (rfl) ⟨by omega, by omega⟩ ?_
  refine z_top (y := (g (4 + r))) ((kpG_lo g hsv (by omega)).symm) ?_
  refine z_istore_n Z dX7_moves_12 [(3, zi (g (4 + r))), (0, .ref h0), (1, zi ((r : Nat) : Int)), (2, zi ps)] (by decide) rfl ?_
  refine z_aload_n Z dX7_moves_13 1 rfl ?_
  refine z_get Z dX7_moves_14 zin_X7_moves_X7 0 1 rfl rfl (by decide) zlk_X7_moves_7 rfl ?_
  refine z_iconst (v := 4) Z dX7_moves_17 rfl ?_
  refine z_iload_n Z dX7_moves_18 2 rfl ?_
  refine z_iadd Z dX7_moves_19 ?_
  refine z_top (y := ((4 + r : Nat) : Int)) (by omega) ?_
  refine z_iload_n Z dX7_moves_20 3 rfl ?_
  refine z_iast Z dX7_moves_21 1 (4 + r) [zO h0 6 [zi th, .ref aS, zi ((kpS sv : Nat) : Int), .ref aF, .ref aX, zi ((ln : Nat) : Int), zi ((ta : Nat) : Int), zi sg, zi ((f1 : Nat) : Int), zi ((l1 : Nat) : Int), zi ((f2 : Nat) : Int), zi ((l2 : Nat) : Int)], zAI ct aS 3888 (zU (kpG g sv) (4 + r) ps)] rfl (rfl) ⟨by omega, by omega⟩ rfl ?_
  refine z_iload_n Z dX7_moves_22 0 rfl ?_
  refine z_eqs [zO h0 6 [zi th, .ref aS, zi ((kpS sv : Nat) : Int), .ref aF, .ref aX, zi ((ln : Nat) : Int), zi ((ta : Nat) : Int), zi sg, zi ((f1 : Nat) : Int), zi ((l1 : Nat) : Int), zi ((f2 : Nat) : Int), zi ((l2 : Nat) : Int)], zAI ct aS 3888 (zU (kpG g sv) (4 + r) ps)] _ [zi (g (4 + r))] (rfl) rfl (rfl) ?_
  exact hR _ _ () trivial dX7_moves_23
theorem zin_X7_nextPlace_X7 : ∀ w ∈ wsX70, w ∈ wsX7_nextPlace := by decide +kernel
theorem zlk_X7_nextPlace_7 : Cond.fieldLink RX7 7 "HashedDirectoryModel" "s" "[I" ∈ wsX7_nextPlace := by decide +kernel
set_option maxHeartbeats 4000000 in
set_option maxRecDepth 100000 in
theorem zc_X7_nextPlace (l : Launch) (D : va_G) (ct : zCT) (h0 : Nat) (aS : Nat) (aF : Nat) (aX : Nat) (th : Int) (sg : Int) (sv : Nat) (ln : Nat) (ta : Nat) (f1 : Nat) (l1 : Nat) (f2 : Nat) (l2 : Nat) (g : Nat → Int) (cnt : Nat) (r : Nat) (hcn : g 0 = ((cnt : Nat) : Int)) (hc : cnt ≤ 40) (hg : ∀ k, k < 432 → -2 ≤ g k ∧ g k < 70000) (hr : r < 4) : zMet l yX7_nextPlace wsX7_nextPlace ({ frames := 2, cells := 0, slots := 0, locals := 43 } : Room) D ct [.ref h0, zi ((r : Nat) : Int)] [zO h0 6 [zi th, .ref aS, zi ((sv : Nat) : Int), .ref aF, .ref aX, zi ((ln : Nat) : Int), zi ((ta : Nat) : Int), zi sg, zi ((f1 : Nat) : Int), zi ((l1 : Nat) : Int), zi ((f2 : Nat) : Int), zi ((l2 : Nat) : Int)], zAI ct aS 3888 g] (fun _ : Unit => True) (fun _ => some (zi (((npF g r cnt : Nat) : Int)))) (fun _ => [zO h0 6 [zi th, .ref aS, zi ((sv : Nat) : Int), .ref aF, .ref aX, zi ((ln : Nat) : Int), zi ((ta : Nat) : Int), zi sg, zi ((f1 : Nat) : Int), zi ((l1 : Nat) : Int), zi ((f2 : Nat) : Int), zi ((l2 : Nat) : Int)], zAI ct aS 3888 g]) 0 0 := by
  refine zMet_i (cc := cX7_nextPlace) (maxL := 3) (r := fun _ => ((npF g r cnt : Nat) : Int)) (by decide) rfl (Nat.le_of_ble_eq_true rfl) ?_
  intro p e s m below meth c A Q Z hnm hR
  refine z_eqs _ [(0, .ref h0), (1, zi ((r : Nat) : Int))] _ rfl rfl rfl ?_
  refine z_iconst (v := 0) Z dX7_nextPlace_0 rfl ?_
  refine z_istore_n Z dX7_nextPlace_1 [(2, zi 0), (0, .ref h0), (1, zi ((r : Nat) : Int))] (by decide) rfl ?_
  refine z_lsub [1, 2, 0] [(0, .ref h0), (1, zi ((r : Nat) : Int)), (2, zi 0)] rfl ?_
  have LOOP2 : ∀ (N0 : Nat) (i : Nat) (x2 : Int), cnt + 1 - i < N0 → x2 = ((i : Nat) : Int) → (i ≤ cnt) → (∀ j, j < i → mK g j ≤ g (4 + r)) → zW p l e ({ frames := 2, cells := 0, slots := 0, locals := 43 } : Room) s m ([.ref h0, zi ((r : Nat) : Int)] : List Value).toArray below meth c D A 3 Q 0 0 [zO h0 6 [zi th, .ref aS, zi ((sv : Nat) : Int), .ref aF, .ref aX, zi ((ln : Nat) : Int), zi ((ta : Nat) : Int), zi sg, zi ((f1 : Nat) : Int), zi ((l1 : Nat) : Int), zi ((f2 : Nat) : Int), zi ((l2 : Nat) : Int)], zAI ct aS 3888 g] [(0, .ref h0), (1, zi ((r : Nat) : Int)), (2, zi x2)] 2 [] := by
    intro N0
    induction N0 with
    | zero => intro i x2 hm0; exact absurd hm0 (Nat.not_lt_zero _)
    | succ N0 ih0 =>
      intro i x2 hm0 ex2 hi hj
      subst ex2
      refine z_iload_n Z dX7_nextPlace_2 2 rfl ?_
      refine z_aload_n Z dX7_nextPlace_3 0 rfl ?_
      refine z_get Z dX7_nextPlace_4 zin_X7_nextPlace_X7 0 1 rfl rfl (by decide) zlk_X7_nextPlace_7 rfl ?_
      refine z_iconst (v := 0) Z dX7_nextPlace_7 rfl ?_
      refine z_iald Z dX7_nextPlace_8 1 (0) rfl (by omega) ⟨by omega, by omega⟩ ?_
      have he1 := hg (0) (by omega)
      refine z_icmp_ge Z 34 dX7_nextPlace_9 (by decide) (by omega) (by omega) (fun h9 => ?_) (fun h9 => ?_)
      · refine z_iload_n Z dX7_nextPlace_34 2 rfl ?_
        refine z_eqs [zO h0 6 [zi th, .ref aS, zi ((sv : Nat) : Int), .ref aF, .ref aX, zi ((ln : Nat) : Int), zi ((ta : Nat) : Int), zi sg, zi ((f1 : Nat) : Int), zi ((l1 : Nat) : Int), zi ((f2 : Nat) : Int), zi ((l2 : Nat) : Int)], zAI ct aS 3888 g] _ [zi ((npF g r cnt : Nat) : Int)] (rfl) rfl (congrArg (fun z => [zi z]) (by rw [← npF_eq hi hj (fun h9 => by omega)])) ?_
        exact hR _ _ () trivial dX7_nextPlace_35
      · refine z_aload_n Z dX7_nextPlace_12 0 rfl ?_
        refine z_iload_n Z dX7_nextPlace_13 2 rfl ?_
        refine z_callVu (rest := []) Z dX7_nextPlace_14 6 0 _ _ rfl rfl rfl (zc_X7_keyAt l D ct (h0) (aS) (aF) (aX) (th) (sg) (sv) (ln) (ta) (f1) (l1) (f2) (l2) (g) (i) (by first | assumption | omega)) (cwV 1 Z.1.2.2.2.2 gX7_nextPlace_X7_keyAt rfl rfl rfl (by decide +kernel) ⟨Nat.le_of_ble_eq_true rfl, Nat.le_of_ble_eq_true rfl⟩) rfl (Nat.le_of_ble_eq_true rfl) ⟨Nat.le_of_ble_eq_true rfl, Nat.le_of_ble_eq_true rfl⟩ [true, true] [zO h0 6 [zi th, .ref aS, zi ((sv : Nat) : Int), .ref aF, .ref aX, zi ((ln : Nat) : Int), zi ((ta : Nat) : Int), zi sg, zi ((f1 : Nat) : Int), zi ((l1 : Nat) : Int), zi ((f2 : Nat) : Int), zi ((l2 : Nat) : Int)], zAI ct aS 3888 g] [zi (mK g i)] rfl rfl rfl rfl ?_
        have hr3 := mI_rg (k := i) (w := 1) hg (by omega) (by decide)
        have hr4 := mI_rg (k := i) (w := 0) hg (by omega) (by decide)
        have hm9 : mK g i = 1000 * mI g i 1 + mI g i 0 := rfl
        refine z_aload_n Z dX7_nextPlace_17 0 rfl ?_
        refine z_get Z dX7_nextPlace_18 zin_X7_nextPlace_X7 0 1 rfl rfl (by decide) zlk_X7_nextPlace_7 rfl ?_
        refine z_iconst (v := 4) Z dX7_nextPlace_21 rfl ?_
        refine z_iload_n Z dX7_nextPlace_22 1 rfl ?_
        refine z_iadd Z dX7_nextPlace_23 ?_
        refine z_top (y := ((4 + r : Nat) : Int)) (by omega) ?_
        refine z_iald Z dX7_nextPlace_24 1 (4 + r) rfl (rfl) ⟨by omega, by omega⟩ ?_
        have he2 := hg (4 + r) (by omega)
        refine z_icmp_gt Z 34 dX7_nextPlace_25 (by decide) (by omega) (by omega) (fun h25 => ?_) (fun h25 => ?_)
        · refine z_iload_n Z dX7_nextPlace_34 2 rfl ?_
          refine z_eqs [zO h0 6 [zi th, .ref aS, zi ((sv : Nat) : Int), .ref aF, .ref aX, zi ((ln : Nat) : Int), zi ((ta : Nat) : Int), zi sg, zi ((f1 : Nat) : Int), zi ((l1 : Nat) : Int), zi ((f2 : Nat) : Int), zi ((l2 : Nat) : Int)], zAI ct aS 3888 g] _ [zi ((npF g r cnt : Nat) : Int)] (rfl) rfl (congrArg (fun z => [zi z]) (by rw [← npF_eq hi hj (fun h9 => by omega)])) ?_
          exact hR _ _ () trivial dX7_nextPlace_35
        · refine z_iinc (v := ((i + 1 : Nat) : Int)) Z dX7_nextPlace_28 2 [(2, zi ((i + 1 : Nat) : Int)), (0, .ref h0), (1, zi ((r : Nat) : Int))] rfl (by omega) (by decide) rfl ?_
          refine z_goto Z 2 dX7_nextPlace_31 (by decide) ?_
          refine z_lsub [1, 2, 0] [(0, .ref h0), (1, zi ((r : Nat) : Int)), (2, zi ((i + 1 : Nat) : Int))] rfl ?_
          exact ih0 (i + 1) _ (by omega) (by first | rfl | omega)  (by first | assumption | omega) (lt_succ_all hj h25)
  exact LOOP2 (cnt + 1 - 0 + 1) 0 _ (Nat.lt_succ_self _) (by first | rfl | omega)  (by first | assumption | omega) (fun j hj => absurd hj (Nat.not_lt_zero j))
