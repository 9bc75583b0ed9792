/-! plain numbers for the reference's calls -/
theorem fo2_ge (p : Nat → Bool) (n : Nat) : fo2 p n ≠ -2 → 0 ≤ fo2 p n ∧ fo2 p n < (n : Int) := by
  unfold fo2
  split
  · intro _; omega
  · intro h; exact absurd rfl h
theorem kpG_I (g : Nat → Int) {sv k w : Nat} (hs : sv ≤ 6) (hk : k < 40) (hw : w < 9) : mI (kpG g sv) k w = mI g k w := kpG_lo g hs (by omega)
theorem kp_cn {g : Nat → Int} {sv cnt : Nat} (hs : sv ≤ 6) (h : g 0 = ((cnt : Nat) : Int)) : kpG g sv 0 = ((cnt : Nat) : Int) := by rw [kpG_lo g hs (by omega)]; exact h
theorem kp_rg {g : Nat → Int} {sv : Nat} (hs : sv ≤ 6) (h : ∀ k, k < 432 → -2 ≤ g k ∧ g k < 70000) : ∀ k, k < 432 → -2 ≤ kpG g sv k ∧ kpG g sv k < 70000 := fun k hk => by rw [kpG_lo g hs hk]; exact h k hk
theorem kp_hs {g : Nat → Int} {sv : Nat} (hs : sv ≤ 6) (h : ∀ k, k < 40 → 0 ≤ mI g k 1 ∧ mI g k 1 < 64) : ∀ k, k < 40 → 0 ≤ mI (kpG g sv) k 1 ∧ mI (kpG g sv) k 1 < 64 := fun k hk => by rw [kpG_I g hs hk (by decide)]; exact h k hk
theorem kp_h {g : Nat → Int} {sv k : Nat} (hs : sv ≤ 6) (h : ∀ k, k < 40 → 0 ≤ mI g k 1 ∧ mI g k 1 < 64) (hk : k < 40) : (mI (kpG g sv) k 1).toNat < 64 := by
  have := kp_hs hs h k hk
  omega
theorem kp_h3 {g : Nat → Int} {sv : Nat} (hs : sv ≤ 6) (h3 : 0 ≤ g 3 ∧ g 3 < 50000) : 0 ≤ kpG g sv 3 ∧ kpG g sv 3 < 50000 := by rw [kpG_lo g hs (by omega)]; exact h3
theorem fo2_cong {p q : Nat → Bool} {n : Nat} (h : ∀ k, k < n → p k = q k) : fo2 p n = fo2 q n := by
  unfold fo2
  rw [fiF_cong h]
theorem fo2_kp {g : Nat → Int} {id : Int} {sv cnt : Nat} (hs : sv ≤ 6) (hc : cnt ≤ 40) : fo2 (mP (kpG g sv) id) cnt = fo2 (mP g id) cnt :=
  fo2_cong (fun k hk => by unfold mP; rw [kpG_I g hs (by omega) (by decide)])
/-- what the merges leave as it is -/
theorem mgM_n {h cnt : Nat} (hh : h < 64) {j : Nat} (h3 : j ≠ 3) (hj : j < 8 ∨ 72 ≤ j) : ∀ d g, d < 7 → mgM h cnt d g j = g j
  | 0, g, _ => rfl
  | d + 1, g, hd => by
    unfold mgM
    split
    · rw [mgM_n hh h3 hj d _ (by omega), zU_n _ _ h3, zU_n]
      have := ndF_lt5 hh (show d < 6 by omega)
      omega
    · rfl
theorem mgM_3 {h cnt : Nat} (hh : h < 64) : ∀ d g, d < 7 → g 3 ≤ mgM h cnt d g 3 ∧ mgM h cnt d g 3 ≤ g 3 + ((d : Nat) : Int)
  | 0, g, _ => by show g 3 ≤ g 3 ∧ g 3 ≤ g 3 + 0; omega
  | d + 1, g, hd => by
    unfold mgM
    split
    · have := mgM_3 (cnt := cnt) hh d (zU (zU g (8 + ndF h d) 0) 3 (g 3 + 1)) (by omega)
      rw [zU_s] at this
      omega
    · omega
theorem mtR_0 (g : Nat → Int) (cnt k : Nat) (hh : (mI g k 1).toNat < 64) : mtR g cnt k 0 = ((cnt - 1 : Nat) : Int) := by
  unfold mtR
  rw [mgM_n hh (by omega) (by omega) _ _ (by have := dpF_le (mtF g cnt k (9 * (cnt - 1))) (mI g k 1).toNat 6 0; omega)]
  exact mtF_z _ _ _ _
theorem mtR_n (g : Nat → Int) (cnt k : Nat) (hh : (mI g k 1).toNat < 64) {j : Nat} (h3 : j ≠ 3) (hj : j < 8 ∨ 72 ≤ j) : mtR g cnt k j = mtF g cnt k (9 * (cnt - 1)) j := by
  unfold mtR
  exact mgM_n hh h3 hj _ _ (by have := dpF_le (mtF g cnt k (9 * (cnt - 1))) (mI g k 1).toNat 6 0; omega)
theorem mtR_1 (g : Nat → Int) (cnt k : Nat) (hh : (mI g k 1).toNat < 64) : mtR g cnt k 1 = g 1 := by
  rw [mtR_n g cnt k hh (by omega) (by omega)]
  exact mtF_lo _ _ _ _ (by omega) (by omega)
theorem mtR_2 (g : Nat → Int) (cnt k : Nat) (hh : (mI g k 1).toNat < 64) : mtR g cnt k 2 = g 2 := by
  rw [mtR_n g cnt k hh (by omega) (by omega)]
  exact mtF_lo _ _ _ _ (by omega) (by omega)
theorem mtR_3 (g : Nat → Int) (cnt k : Nat) (hc : cnt ≤ 40) (h3 : 0 ≤ g 3 ∧ g 3 < 50000) (hh : (mI g k 1).toNat < 64) : 0 ≤ mtR g cnt k 3 ∧ mtR g cnt k 3 < 60000 := by
  have hd := dpF_le (mtF g cnt k (9 * (cnt - 1))) (mI g k 1).toNat 6 0
  have := mgM_3 (cnt := cnt - 1) hh (dpF (mtF g cnt k (9 * (cnt - 1))) (mI g k 1).toNat 6 0) (mtF g cnt k (9 * (cnt - 1))) (by omega)
  rw [mtF_lo _ _ _ _ (by omega) (by omega)] at this
  unfold mtR
  omega
theorem mgM_rg {h cnt : Nat} {g0 : Nat → Int} (hh : h < 64) : ∀ d g, d < 7 → (∀ k, k < 432 → -2 ≤ g k ∧ g k < 70000) → 0 ≤ g 3 → g 3 + ((d : Nat) : Int) < 70000 → ∀ k, k < 432 → -2 ≤ mgM h cnt d g k ∧ mgM h cnt d g k < 70000
  | 0, g, _, hg, _, _ => hg
  | d + 1, g, hd, hg, h0, h3 => by
    unfold mgM
    split
    · exact mgM_rg (g0 := g0) hh d _ (by omega) (zU2_rg hg (by omega) (by omega)) (by rw [zU_s]; omega) (by rw [zU_s]; omega)
    · exact hg
theorem mtR_rg {g : Nat → Int} {cnt k : Nat} (hg : ∀ k, k < 432 → -2 ≤ g k ∧ g k < 70000) (hc : cnt ≤ 40) (h3 : 0 ≤ g 3 ∧ g 3 < 50000) (hh : (mI g k 1).toNat < 64) : ∀ j, j < 432 → -2 ≤ mtR g cnt k j ∧ mtR g cnt k j < 70000 := by
  have hd := dpF_le (mtF g cnt k (9 * (cnt - 1))) (mI g k 1).toNat 6 0
  have hl : mtF g cnt k (9 * (cnt - 1)) 3 = g 3 := mtF_lo _ _ _ _ (by omega) (by omega)
  unfold mtR
  exact mgM_rg (g0 := g) hh _ _ (by omega) (mtF_rg hg hc) (by rw [hl]; omega) (by rw [hl]; omega)
theorem mtR_hs {g : Nat → Int} {cnt k : Nat} (hs : ∀ k, k < 40 → 0 ≤ mI g k 1 ∧ mI g k 1 < 64) (hc : cnt ≤ 40) (hh : (mI g k 1).toNat < 64) : ∀ i, i < 40 → 0 ≤ mI (mtR g cnt k) i 1 ∧ mI (mtR g cnt k) i 1 < 64 := by
  intro i hi
  unfold mI
  rw [mtR_n g cnt k hh (by omega) (by omega)]
  exact mtF_hs hs hc i hi
theorem zU_rg {g : Nat → Int} {a : Nat} {v : Int} (hg : ∀ k, k < 432 → -2 ≤ g k ∧ g k < 70000) (hv : -2 ≤ v ∧ v < 70000) : ∀ k, k < 432 → -2 ≤ zU g a v k ∧ zU g a v k < 70000 := by
  intro k hk
  unfold zU
  split
  · exact hv
  · exact hg k hk
theorem zU_I {g : Nat → Int} {a k w : Nat} {v : Int} (h : a < 72) : mI (zU g a v) k w = mI g k w := zU_n _ _ (by omega)
def rlS (K : Nat → Int) (h rest : Nat) : Nat → Bool := fun i => decide (qF (mI K i 1).toNat rest = qF h rest)
def rlF (same : Nat → Bool) : Nat → Nat → Nat
  | 0, i => i
  | k + 1, i => if same i = true then rlF same k (i + 1) else i
theorem rlF_stop {same : Nat → Bool} {k i : Nat} (h : same i = false) : rlF same k i = i := by
  cases k with
  | zero => rfl
  | succ k => unfold rlF; rw [h]; rfl
theorem rlF_next {same : Nat → Bool} {cnt i : Nat} (hi : i < cnt) (h : same i = true) : rlF same (cnt - i) i = rlF same (cnt - (i + 1)) (i + 1) := by
  obtain ⟨k, hk⟩ : ∃ k, cnt - i = k + 1 := ⟨cnt - i - 1, by omega⟩
  rw [hk, show cnt - (i + 1) = k by omega]
  show (if same i = true then rlF same k (i + 1) else i) = _
  rw [if_pos h]
def rlG (K : Nat → Int) (r f i : Nat) : Nat → Int := if f < i then zU K (4 + r) (mK K (i - 1)) else K
theorem rlG_s0 (K : Nat → Int) (r f : Nat) : K = rlG K r f f := by
  unfold rlG
  rw [if_neg (by omega)]
theorem rlG_s (K : Nat → Int) {r f i : Nat} (h : f ≤ i) : zU (rlG K r f i) (4 + r) (mK K i) = rlG K r f (i + 1) := by
  unfold rlG
  rw [if_pos (show f < i + 1 by omega), Nat.add_sub_cancel]
  split
  · funext j
    unfold zU
    split <;> rfl
  · rfl
theorem rlG_0 {K : Nat → Int} {r f i cnt : Nat} (h : K 0 = ((cnt : Nat) : Int)) : rlG K r f i 0 = ((cnt : Nat) : Int) := by
  unfold rlG
  split
  · rw [zU_n _ _ (by omega)]; exact h
  · exact h
theorem rlG_I {K : Nat → Int} {r f i k w : Nat} (hr : r < 4) : mI (rlG K r f i) k w = mI K k w := by
  unfold rlG
  split
  · exact zU_I (by omega)
  · rfl
theorem rlG_K {K : Nat → Int} {r f i k : Nat} (hr : r < 4) : mK (rlG K r f i) k = mK K k := by
  unfold mK
  rw [rlG_I hr, rlG_I hr]
theorem cpF_lo (g : Nat → Int) (f : Nat) {t j : Nat} (ht : 0 < t) (hj : j < 432) : cpF g f t 432 j = g j := by
  unfold cpF
  rw [if_neg (by omega)]
theorem kpL_hi (g : Nat → Int) : ∀ n j, n ≤ 5 → 2592 ≤ j → kpL g n j = g j
  | 0, j, _, _ => rfl
  | n + 1, j, hn, h => by
    show cpF (kpL g n) (n + 2) (n + 1) 432 j = g j
    unfold cpF
    rw [if_neg (by omega)]
    exact kpL_hi g n j (by omega) h
theorem kpG_hi (g : Nat → Int) {sv j : Nat} (hs : sv ≤ 6) (h : 3024 ≤ j) : kpG g sv j = g j := by
  unfold kpG cpF
  have : kpS sv ≤ 6 := by unfold kpS; split <;> omega
  rw [if_neg (by omega)]
  split
  · exact kpL_hi g 5 j (by omega) (by omega)
  · rfl
theorem cpK_0 (g : Nat → Int) {sv k : Nat} (hs : sv ≤ 6) (hk : k < 2) : cpF (kpG g sv) (7 + k) 0 432 0 = g (432 * (7 + k)) := by
  unfold cpF
  rw [if_pos (by omega)]
  exact kpG_hi g hs (by omega)
def bgB (g : Nat → Int) (h cnt : Nat) : Nat → Bool := fun d => decide (4 < bgF g h d cnt + 1)
set_option maxHeartbeats 4000000 in
set_option maxRecDepth 100000 in
theorem zc_X7_isHash (l : Launch) (D : va_G) (ct : zCT) (h : Int) (hh : -2147483648 ≤ h ∧ h < 2147483648) : zMet l yX7_isHash wsX7_isHash ({ frames := 1, cells := 0, slots := 0, locals := 22 } : Room) D ct [zi h] [] (fun _ : Unit => True) (fun _ => some (zi (zb (decide (0 ≤ h ∧ h ≤ 63))))) (fun _ => []) 0 0 := by
  refine zMet_z (cc := cX7_isHash) (maxL := 1) (r := fun _ => zb (decide (0 ≤ h ∧ h ≤ 63))) (by decide) rfl (Nat.le_of_ble_eq_true rfl) (fun _ _ => zb_n _) ?_
  intro p e s m below meth c A Q Z hnm hR
  refine z_eqs _ [(0, zi h)] _ rfl rfl rfl ?_
  refine z_iload_n Z dX7_isHash_0 0 rfl ?_
  refine z_iconst (v := 0) Z dX7_isHash_1 rfl ?_
  refine z_bipush (v := 63) Z dX7_isHash_2 (by decide +kernel) ?_
  refine z_callSu (rest := []) Z dX7_isHash_4 (zc_X7_in l D ct (h) (0) (63) (by first | assumption | omega) (by first | assumption | omega) (by first | assumption | omega)) (va_cwS 3 Z.1.2.2.2.2 gX7_isHash_X7_in rfl rfl rfl (by decide +kernel) ⟨Nat.le_of_ble_eq_true rfl, Nat.le_of_ble_eq_true rfl⟩) rfl (Nat.le_of_ble_eq_true rfl) ⟨Nat.le_of_ble_eq_true rfl, Nat.le_of_ble_eq_true rfl⟩ [] [] [zi (zb (decide (0 ≤ h ∧ h ≤ 63)))] rfl rfl rfl rfl ?_
  refine z_eqs [] _ [zi (zb (decide (0 ≤ h ∧ h ≤ 63)))] (rfl) rfl (rfl) ?_
  exact hR _ _ () trivial dX7_isHash_7
set_option maxHeartbeats 4000000 in
set_option maxRecDepth 100000 in
theorem zc_X7_add_1 (l : Launch) (D : va_G) (ct : zCT) (h0 : Nat) (aS : Nat) (aF : Nat) (aX : Nat) (th : Int) (sg : Int) (sv : Nat) (ln : Nat) (ta : Nat) (f1 : Nat) (l1 : Nat) (f2 : Nat) (l2 : Nat) (g : Nat → Int) (fz : Nat → Int) (tx : Nat → Nat) (cnt : Nat) (hcn : g 0 = ((cnt : Nat) : Int)) (hc : cnt ≤ 40) (hg : ∀ k, k < 432 → -2 ≤ g k ∧ g k < 70000) (hhs : ∀ k, k < 40 → 0 ≤ mI g k 1 ∧ mI g k 1 < 64) (ht : ∀ j, j < 80 → tx j < 128) (hln : ln ≤ 80) (hsv : sv ≤ 6) (h2 : 0 ≤ g 2 ∧ g 2 < 50000) (h3 : 0 ≤ g 3 ∧ g 3 < 50000) (h1 : 0 ≤ g 1 ∧ g 1 < 2000) (hn : ¬ ((1 ≤ ln ∧ ln ≤ 6) ∧ ∀ r, r < ln → 97 ≤ tx r ∧ tx r ≤ 122)) : zMet l yX7_add wsX7_add ({ frames := 2, cells := 0, slots := 0, locals := 44 } : Room) D ct [.ref h0] [zO h0 6 [zi th, .ref aS, zi ((sv : Nat) : Int), .ref aF, .ref aX, zi ((ln : Nat) : Int), zi ((ta : Nat) : Int), zi sg, zi ((f1 : Nat) : Int), zi ((l1 : Nat) : Int), zi ((f2 : Nat) : Int), zi ((l2 : Nat) : Int)], zAI ct aS 3888 g, zAZ ct aF 2 fz, zAI ct aX 80 (zN tx)] (fun _ : Unit => True) (fun _ => some (zi (0))) (fun _ => [zO h0 6 [zi 1, .ref aS, zi ((sv : Nat) : Int), .ref aF, .ref aX, zi ((ln : Nat) : Int), zi ((ta : Nat) : Int), zi sg, zi ((f1 : Nat) : Int), zi ((l1 : Nat) : Int), zi ((f2 : Nat) : Int), zi ((l2 : Nat) : Int)], zAI ct aS 3888 g, zAZ ct aF 2 fz, zAI ct aX 80 (zN tx)]) 0 0 := by
  refine zMet_i (cc := cX7_add) (maxL := 3) (r := fun _ => 0) (by decide) rfl (Nat.le_of_ble_eq_true rfl) ?_
  intro p e s m below meth c A Q Z hnm hR
  refine z_eqs _ [(0, .ref h0)] _ rfl rfl rfl ?_
  refine z_aload_n Z dX7_add_0 0 rfl ?_
  refine z_callVu (rest := []) Z dX7_add_1 6 0 _ _ rfl rfl rfl (zc_X7_isName l D ct (h0) (aS) (aF) (aX) (th) (sg) (sv) (ln) (ta) (f1) (l1) (f2) (l2) (tx) (by first | assumption | omega) (by first | assumption | omega)) (cwV 0 Z.1.2.2.2.2 gX7_add_X7_isName rfl rfl rfl (by decide +kernel) ⟨Nat.le_of_ble_eq_true rfl, Nat.le_of_ble_eq_true rfl⟩) rfl (Nat.le_of_ble_eq_true rfl) ⟨Nat.le_of_ble_eq_true rfl, Nat.le_of_ble_eq_true rfl⟩ [true, false, false, true] [zO h0 6 [zi th, .ref aS, zi ((sv : Nat) : Int), .ref aF, .ref aX, zi ((ln : Nat) : Int), zi ((ta : Nat) : Int), zi sg, zi ((f1 : Nat) : Int), zi ((l1 : Nat) : Int), zi ((f2 : Nat) : Int), zi ((l2 : Nat) : Int)], zAI ct aS 3888 g, zAZ ct aF 2 fz, zAI ct aX 80 (zN tx)] [zi (zb (decide ((1 ≤ ln ∧ ln ≤ 6) ∧ ∀ r, r < ln → 97 ≤ tx r ∧ tx r ≤ 122)))] rfl rfl rfl rfl ?_
  refine z_istore_n Z dX7_add_4 [(1, zi (zb (decide ((1 ≤ ln ∧ ln ≤ 6) ∧ ∀ r, r < ln → 97 ≤ tx r ∧ tx r ≤ 122)))), (0, .ref h0)] (by decide) rfl ?_
  refine z_aload_n Z dX7_add_5 1 rfl ?_
  refine z_iload_n Z dX7_add_6 0 rfl ?_
  refine z_ifb_ne Z 14 dX7_add_7 (by decide) (fun h7 => ?_) (fun h7 => ?_)
  · have h7 := of_decide_eq_true h7
    exfalso; first | contradiction | omega
  · have h7 := of_decide_eq_false h7
    refine z_iconst (v := 1) Z dX7_add_10 rfl ?_
    refine z_goto Z 42 dX7_add_11 (by decide) ?_
    refine z_callVu (rest := []) Z dX7_add_42 6 0 _ _ rfl rfl rfl (zc_X7_holds l D ct (h0) (aS) (aF) (aX) (th) (sg) (sv) (ln) (ta) (f1) (l1) (f2) (l2) (1) (by first | assumption | omega)) (cwV 1 Z.1.2.2.2.2 gX7_add_X7_holds rfl rfl rfl (by decide +kernel) ⟨Nat.le_of_ble_eq_true rfl, Nat.le_of_ble_eq_true rfl⟩) rfl (Nat.le_of_ble_eq_true rfl) ⟨Nat.le_of_ble_eq_true rfl, Nat.le_of_ble_eq_true rfl⟩ [true, false, false, false] [zO h0 6 [zi 1, .ref aS, zi ((sv : Nat) : Int), .ref aF, .ref aX, zi ((ln : Nat) : Int), zi ((ta : Nat) : Int), zi sg, zi ((f1 : Nat) : Int), zi ((l1 : Nat) : Int), zi ((f2 : Nat) : Int), zi ((l2 : Nat) : Int)], zAI ct aS 3888 g, zAZ ct aF 2 fz, zAI ct aX 80 (zN tx)] [zi (zb (decide (1 = 0)))] rfl rfl rfl rfl ?_
    refine z_ifb_ne Z 50 dX7_add_45 (by decide) (fun h45 => ?_) (fun h45 => ?_)
    · have h45 := of_decide_eq_true h45
      exfalso; first | contradiction | omega
    · have h45 := of_decide_eq_false h45
      refine z_iconst (v := 0) Z dX7_add_48 rfl ?_
      refine z_eqs [zO h0 6 [zi 1, .ref aS, zi ((sv : Nat) : Int), .ref aF, .ref aX, zi ((ln : Nat) : Int), zi ((ta : Nat) : Int), zi sg, zi ((f1 : Nat) : Int), zi ((l1 : Nat) : Int), zi ((f2 : Nat) : Int), zi ((l2 : Nat) : Int)], zAI ct aS 3888 g, zAZ ct aF 2 fz, zAI ct aX 80 (zN tx)] _ [zi 0] (rfl) rfl (rfl) ?_
      exact hR _ _ () trivial dX7_add_49
theorem zin_X7_add_X7 : ∀ w ∈ wsX70, w ∈ wsX7_add := by decide +kernel
theorem zlk_X7_add_65 : Cond.fieldLink RX7 65 "HashedDirectoryModel" "length" "I" ∈ wsX7_add := by decide +kernel
theorem zlk_X7_add_7 : Cond.fieldLink RX7 7 "HashedDirectoryModel" "s" "[I" ∈ wsX7_add := by decide +kernel
set_option maxHeartbeats 4000000 in
set_option maxRecDepth 100000 in
theorem zc_X7_add_2 (l : Launch) (D : va_G) (ct : zCT) (h0 : Nat) (aS : Nat) (aF : Nat) (aX : Nat) (th : Int) (sg : Int) (sv : Nat) (ln : Nat) (ta : Nat) (f1 : Nat) (l1 : Nat) (f2 : Nat) (l2 : Nat) (g : Nat → Int) (fz : Nat → Int) (tx : Nat → Nat) (cnt : Nat) (hcn : g 0 = ((cnt : Nat) : Int)) (hc : cnt ≤ 40) (hg : ∀ k, k < 432 → -2 ≤ g k ∧ g k < 70000) (hhs : ∀ k, k < 40 → 0 ≤ mI g k 1 ∧ mI g k 1 < 64) (ht : ∀ j, j < 80 → tx j < 128) (hln : ln ≤ 80) (hsv : sv ≤ 6) (h2 : 0 ≤ g 2 ∧ g 2 < 50000) (h3 : 0 ≤ g 3 ∧ g 3 < 50000) (h1 : 0 ≤ g 1 ∧ g 1 < 2000) (hn : (1 ≤ ln ∧ ln ≤ 6) ∧ ∀ r, r < ln → 97 ≤ tx r ∧ tx r ≤ 122) (hcm : ¬ (fo2 (mN g tx 0 ln) cnt = -2 ∧ g 1 < 1000) ∨ cnt = 40) : zMet l yX7_add wsX7_add ({ frames := 3, cells := 0, slots := 0, locals := 69 } : Room) D ct [.ref h0] [zO h0 6 [zi th, .ref aS, zi ((sv : Nat) : Int), .ref aF, .ref aX, zi ((ln : Nat) : Int), zi ((ta : Nat) : Int), zi sg, zi ((f1 : Nat) : Int), zi ((l1 : Nat) : Int), zi ((f2 : Nat) : Int), zi ((l2 : Nat) : Int)], zAI ct aS 3888 g, zAZ ct aF 2 fz, zAI ct aX 80 (zN tx)] (fun _ : Unit => True) (fun _ => some (zi (0))) (fun _ => [zO h0 6 [zi 2, .ref aS, zi ((sv : Nat) : Int), .ref aF, .ref aX, zi ((ln : Nat) : Int), zi ((ta : Nat) : Int), zi sg, zi ((f1 : Nat) : Int), zi ((l1 : Nat) : Int), zi ((f2 : Nat) : Int), zi ((l2 : Nat) : Int)], zAI ct aS 3888 g, zAZ ct aF 2 fz, zAI ct aX 80 (zN tx)]) 0 0 := by
  refine zMet_i (cc := cX7_add) (maxL := 3) (r := fun _ => 0) (by decide) rfl (Nat.le_of_ble_eq_true rfl) ?_
  intro p e s m below meth c A Q Z hnm hR
  refine z_eqs _ [(0, .ref h0)] _ rfl rfl rfl ?_
  have hn1 := hn.1
  have hn2 := hn.2
  refine z_aload_n Z dX7_add_0 0 rfl ?_
  refine z_callVu (rest := []) Z dX7_add_1 6 0 _ _ rfl rfl rfl (zc_X7_isName l D ct (h0) (aS) (aF) (aX) (th) (sg) (sv) (ln) (ta) (f1) (l1) (f2) (l2) (tx) (by first | assumption | omega) (by first | assumption | omega)) (cwV 0 Z.1.2.2.2.2 gX7_add_X7_isName rfl rfl rfl (by decide +kernel) ⟨Nat.le_of_ble_eq_true rfl, Nat.le_of_ble_eq_true rfl⟩) rfl (Nat.le_of_ble_eq_true rfl) ⟨Nat.le_of_ble_eq_true rfl, Nat.le_of_ble_eq_true rfl⟩ [true, false, false, true] [zO h0 6 [zi th, .ref aS, zi ((sv : Nat) : Int), .ref aF, .ref aX, zi ((ln : Nat) : Int), zi ((ta : Nat) : Int), zi sg, zi ((f1 : Nat) : Int), zi ((l1 : Nat) : Int), zi ((f2 : Nat) : Int), zi ((l2 : Nat) : Int)], zAI ct aS 3888 g, zAZ ct aF 2 fz, zAI ct aX 80 (zN tx)] [zi (zb (decide ((1 ≤ ln ∧ ln ≤ 6) ∧ ∀ r, r < ln → 97 ≤ tx r ∧ tx r ≤ 122)))] rfl rfl rfl rfl ?_
  refine z_istore_n Z dX7_add_4 [(1, zi (zb (decide ((1 ≤ ln ∧ ln ≤ 6) ∧ ∀ r, r < ln → 97 ≤ tx r ∧ tx r ≤ 122)))), (0, .ref h0)] (by decide) rfl ?_
  refine z_aload_n Z dX7_add_5 1 rfl ?_
  refine z_iload_n Z dX7_add_6 0 rfl ?_
  refine z_ifb_ne Z 14 dX7_add_7 (by decide) (fun h7 => ?_) (fun h7 => ?_)
  · have h7 := of_decide_eq_true h7
    refine z_aload_n Z dX7_add_14 1 rfl ?_
    refine z_iconst (v := 0) Z dX7_add_15 rfl ?_
    refine z_aload_n Z dX7_add_16 1 rfl ?_
    refine z_get Z dX7_add_17 zin_X7_add_X7 0 5 rfl rfl (by decide) zlk_X7_add_65 rfl ?_
    refine z_callVu (rest := [.ref h0]) Z dX7_add_20 6 0 _ _ rfl rfl rfl (zc_X7_canMake l D ct (h0) (aS) (aF) (aX) (th) (sg) (sv) (ln) (ta) (f1) (l1) (f2) (l2) (g) (tx) (cnt) (0) (ln) (by first | assumption | omega) (by first | assumption | omega) (by first | assumption | omega) (by first | assumption | omega) (by first | assumption | omega) (by first | assumption | omega)) (cwV 2 Z.1.2.2.2.2 gX7_add_X7_canMake rfl rfl rfl (by decide +kernel) ⟨Nat.le_of_ble_eq_true rfl, Nat.le_of_ble_eq_true rfl⟩) rfl (Nat.le_of_ble_eq_true rfl) ⟨Nat.le_of_ble_eq_true rfl, Nat.le_of_ble_eq_true rfl⟩ [true, true, false, true] [zO h0 6 [zi th, .ref aS, zi ((sv : Nat) : Int), .ref aF, .ref aX, zi ((ln : Nat) : Int), zi ((ta : Nat) : Int), zi sg, zi ((f1 : Nat) : Int), zi ((l1 : Nat) : Int), zi ((f2 : Nat) : Int), zi ((l2 : Nat) : Int)], zAI ct aS 3888 g, zAZ ct aF 2 fz, zAI ct aX 80 (zN tx)] [zi (zb (decide (fo2 (mN g tx 0 ln) cnt = -2 ∧ g 1 < 1000))), .ref h0] rfl rfl rfl rfl ?_
    refine z_ifb_eq Z 37 dX7_add_23 (by decide) (fun h23 => ?_) (fun h23 => ?_)
    · have h23 := of_decide_eq_false h23
      refine z_iconst (v := 2) Z dX7_add_37 rfl ?_
      refine z_goto Z 42 dX7_add_38 (by decide) ?_
      refine z_callVu (rest := []) Z dX7_add_42 6 0 _ _ rfl rfl rfl (zc_X7_holds l D ct (h0) (aS) (aF) (aX) (th) (sg) (sv) (ln) (ta) (f1) (l1) (f2) (l2) (2) (by first | assumption | omega)) (cwV 1 Z.1.2.2.2.2 gX7_add_X7_holds rfl rfl rfl (by decide +kernel) ⟨Nat.le_of_ble_eq_true rfl, Nat.le_of_ble_eq_true rfl⟩) rfl (Nat.le_of_ble_eq_true rfl) ⟨Nat.le_of_ble_eq_true rfl, Nat.le_of_ble_eq_true rfl⟩ [true, false, false, false] [zO h0 6 [zi 2, .ref aS, zi ((sv : Nat) : Int), .ref aF, .ref aX, zi ((ln : Nat) : Int), zi ((ta : Nat) : Int), zi sg, zi ((f1 : Nat) : Int), zi ((l1 : Nat) : Int), zi ((f2 : Nat) : Int), zi ((l2 : Nat) : Int)], zAI ct aS 3888 g, zAZ ct aF 2 fz, zAI ct aX 80 (zN tx)] [zi (zb (decide (2 = 0)))] rfl rfl rfl rfl ?_
      refine z_ifb_ne Z 50 dX7_add_45 (by decide) (fun h45 => ?_) (fun h45 => ?_)
      · have h45 := of_decide_eq_true h45
        exfalso; first | contradiction | omega
      · have h45 := of_decide_eq_false h45
        refine z_iconst (v := 0) Z dX7_add_48 rfl ?_
        refine z_eqs [zO h0 6 [zi 2, .ref aS, zi ((sv : Nat) : Int), .ref aF, .ref aX, zi ((ln : Nat) : Int), zi ((ta : Nat) : Int), zi sg, zi ((f1 : Nat) : Int), zi ((l1 : Nat) : Int), zi ((f2 : Nat) : Int), zi ((l2 : Nat) : Int)], zAI ct aS 3888 g, zAZ ct aF 2 fz, zAI ct aX 80 (zN tx)] _ [zi 0] (rfl) rfl (rfl) ?_
        exact hR _ _ () trivial dX7_add_49
    · have h23 := of_decide_eq_true h23
      refine z_aload_n Z dX7_add_26 1 rfl ?_
      refine z_get Z dX7_add_27 zin_X7_add_X7 0 1 rfl rfl (by decide) zlk_X7_add_7 rfl ?_
      refine z_iconst (v := 0) Z dX7_add_30 rfl ?_
      refine z_iald Z dX7_add_31 1 (0) rfl (by omega) ⟨by omega, by omega⟩ ?_
      have he1 := hg (0) (by omega)
      refine z_bipush (v := 40) Z dX7_add_32 (by decide +kernel) ?_
      refine z_icmp_ne Z 41 dX7_add_34 (by decide) (by omega) (by omega) (fun h34 => ?_) (fun h34 => ?_)
      · exfalso; rcases hcm with h9 | h9; exact h9 h23; omega
      · refine z_iconst (v := 2) Z dX7_add_37 rfl ?_
        refine z_goto Z 42 dX7_add_38 (by decide) ?_
        refine z_callVu (rest := []) Z dX7_add_42 6 0 _ _ rfl rfl rfl (zc_X7_holds l D ct (h0) (aS) (aF) (aX) (th) (sg) (sv) (ln) (ta) (f1) (l1) (f2) (l2) (2) (by first | assumption | omega)) (cwV 1 Z.1.2.2.2.2 gX7_add_X7_holds rfl rfl rfl (by decide +kernel) ⟨Nat.le_of_ble_eq_true rfl, Nat.le_of_ble_eq_true rfl⟩) rfl (Nat.le_of_ble_eq_true rfl) ⟨Nat.le_of_ble_eq_true rfl, Nat.le_of_ble_eq_true rfl⟩ [true, false, false, false] [zO h0 6 [zi 2, .ref aS, zi ((sv : Nat) : Int), .ref aF, .ref aX, zi ((ln : Nat) : Int), zi ((ta : Nat) : Int), zi sg, zi ((f1 : Nat) : Int), zi ((l1 : Nat) : Int), zi ((f2 : Nat) : Int), zi ((l2 : Nat) : Int)], zAI ct aS 3888 g, zAZ ct aF 2 fz, zAI ct aX 80 (zN tx)] [zi (zb (decide (2 = 0)))] rfl rfl rfl rfl ?_
        refine z_ifb_ne Z 50 dX7_add_45 (by decide) (fun h45 => ?_) (fun h45 => ?_)
        · have h45 := of_decide_eq_true h45
          exfalso; first | contradiction | omega
        · have h45 := of_decide_eq_false h45
          refine z_iconst (v := 0) Z dX7_add_48 rfl ?_
          refine z_eqs [zO h0 6 [zi 2, .ref aS, zi ((sv : Nat) : Int), .ref aF, .ref aX, zi ((ln : Nat) : Int), zi ((ta : Nat) : Int), zi sg, zi ((f1 : Nat) : Int), zi ((l1 : Nat) : Int), zi ((f2 : Nat) : Int), zi ((l2 : Nat) : Int)], zAI ct aS 3888 g, zAZ ct aF 2 fz, zAI ct aX 80 (zN tx)] _ [zi 0] (rfl) rfl (rfl) ?_
          exact hR _ _ () trivial dX7_add_49
  · have h7 := of_decide_eq_false h7
    exfalso; first | contradiction | omega
set_option maxHeartbeats 4000000 in
set_option maxRecDepth 100000 in
theorem zc_X7_add_0 (l : Launch) (D : va_G) (ct : zCT) (h0 : Nat) (aS : Nat) (aF : Nat) (aX : Nat) (th : Int) (sg : Int) (sv : Nat) (ln : Nat) (ta : Nat) (f1 : Nat) (l1 : Nat) (f2 : Nat) (l2 : Nat) (g : Nat → Int) (fz : Nat → Int) (tx : Nat → Nat) (cnt : Nat) (hcn : g 0 = ((cnt : Nat) : Int)) (hc : cnt ≤ 40) (hg : ∀ k, k < 432 → -2 ≤ g k ∧ g k < 70000) (hhs : ∀ k, k < 40 → 0 ≤ mI g k 1 ∧ mI g k 1 < 64) (ht : ∀ j, j < 80 → tx j < 128) (hln : ln ≤ 80) (hsv : sv ≤ 6) (h2 : 0 ≤ g 2 ∧ g 2 < 50000) (h3 : 0 ≤ g 3 ∧ g 3 < 50000) (h1 : 0 ≤ g 1 ∧ g 1 < 2000) (hn : (1 ≤ ln ∧ ln ≤ 6) ∧ ∀ r, r < ln → 97 ≤ tx r ∧ tx r ≤ 122) (hcm : fo2 (mN g tx 0 ln) cnt = -2 ∧ g 1 < 1000) (hc4 : cnt < 40) : zMet l yX7_add wsX7_add ({ frames := 4, cells := 0, slots := 0, locals := 95 } : Room) D ct [.ref h0] [zO h0 6 [zi th, .ref aS, zi ((sv : Nat) : Int), .ref aF, .ref aX, zi ((ln : Nat) : Int), zi ((ta : Nat) : Int), zi sg, zi ((f1 : Nat) : Int), zi ((l1 : Nat) : Int), zi ((f2 : Nat) : Int), zi ((l2 : Nat) : Int)], zAI ct aS 3888 g, zAZ ct aF 2 fz, zAI ct aX 80 (zN tx)] (fun _ : Unit => True) (fun _ => some (zi ((g 1)))) (fun _ => [zO h0 6 [zi 0, .ref aS, zi ((kpS sv : Nat) : Int), .ref aF, .ref aX, zi 0, zi ((ta : Nat) : Int), zi sg, zi ((f1 : Nat) : Int), zi ((l1 : Nat) : Int), zi ((f2 : Nat) : Int), zi ((l2 : Nat) : Int)], zAI ct aS 3888 (mkR (kpG g sv) tx 0 ln cnt), zAZ ct aF 2 fz, zAI ct aX 80 (zN tx)]) 0 0 := by
  refine zMet_i (cc := cX7_add) (maxL := 3) (r := fun _ => (g 1)) (by decide) rfl (Nat.le_of_ble_eq_true rfl) ?_
  intro p e s m below meth c A Q Z hnm hR
  refine z_eqs _ [(0, .ref h0)] _ rfl rfl rfl ?_
  have hn1 := hn.1
  have hn2 := hn.2
  refine z_aload_n Z dX7_add_0 0 rfl ?_
  refine z_callVu (rest := []) Z dX7_add_1 6 0 _ _ rfl rfl rfl (zc_X7_isName l D ct (h0) (aS) (aF) (aX) (th) (sg) (sv) (ln) (ta) (f1) (l1) (f2) (l2) (tx) (by first | assumption | omega) (by first | assumption | omega)) (cwV 0 Z.1.2.2.2.2 gX7_add_X7_isName rfl rfl rfl (by decide +kernel) ⟨Nat.le_of_ble_eq_true rfl, Nat.le_of_ble_eq_true rfl⟩) rfl (Nat.le_of_ble_eq_true rfl) ⟨Nat.le_of_ble_eq_true rfl, Nat.le_of_ble_eq_true rfl⟩ [true, false, false, true] [zO h0 6 [zi th, .ref aS, zi ((sv : Nat) : Int), .ref aF, .ref aX, zi ((ln : Nat) : Int), zi ((ta : Nat) : Int), zi sg, zi ((f1 : Nat) : Int), zi ((l1 : Nat) : Int), zi ((f2 : Nat) : Int), zi ((l2 : Nat) : Int)], zAI ct aS 3888 g, zAZ ct aF 2 fz, zAI ct aX 80 (zN tx)] [zi (zb (decide ((1 ≤ ln ∧ ln ≤ 6) ∧ ∀ r, r < ln → 97 ≤ tx r ∧ tx r ≤ 122)))] rfl rfl rfl rfl ?_
  refine z_istore_n Z dX7_add_4 [(1, zi (zb (decide ((1 ≤ ln ∧ ln ≤ 6) ∧ ∀ r, r < ln → 97 ≤ tx r ∧ tx r ≤ 122)))), (0, .ref h0)] (by decide) rfl ?_
  refine z_aload_n Z dX7_add_5 1 rfl ?_
  refine z_iload_n Z dX7_add_6 0 rfl ?_
  refine z_ifb_ne Z 14 dX7_add_7 (by decide) (fun h7 => ?_) (fun h7 => ?_)
  · have h7 := of_decide_eq_true h7
    refine z_aload_n Z dX7_add_14 1 rfl ?_
    refine z_iconst (v := 0) Z dX7_add_15 rfl ?_
    refine z_aload_n Z dX7_add_16 1 rfl ?_
    refine z_get Z dX7_add_17 zin_X7_add_X7 0 5 rfl rfl (by decide) zlk_X7_add_65 rfl ?_
    refine z_callVu (rest := [.ref h0]) Z dX7_add_20 6 0 _ _ rfl rfl rfl (zc_X7_canMake l D ct (h0) (aS) (aF) (aX) (th) (sg) (sv) (ln) (ta) (f1) (l1) (f2) (l2) (g) (tx) (cnt) (0) (ln) (by first | assumption | omega) (by first | assumption | omega) (by first | assumption | omega) (by first | assumption | omega) (by first | assumption | omega) (by first | assumption | omega)) (cwV 2 Z.1.2.2.2.2 gX7_add_X7_canMake rfl rfl rfl (by decide +kernel) ⟨Nat.le_of_ble_eq_true rfl, Nat.le_of_ble_eq_true rfl⟩) rfl (Nat.le_of_ble_eq_true rfl) ⟨Nat.le_of_ble_eq_true rfl, Nat.le_of_ble_eq_true rfl⟩ [true, true, false, true] [zO h0 6 [zi th, .ref aS, zi ((sv : Nat) : Int), .ref aF, .ref aX, zi ((ln : Nat) : Int), zi ((ta : Nat) : Int), zi sg, zi ((f1 : Nat) : Int), zi ((l1 : Nat) : Int), zi ((f2 : Nat) : Int), zi ((l2 : Nat) : Int)], zAI ct aS 3888 g, zAZ ct aF 2 fz, zAI ct aX 80 (zN tx)] [zi (zb (decide (fo2 (mN g tx 0 ln) cnt = -2 ∧ g 1 < 1000))), .ref h0] rfl rfl rfl rfl ?_
    refine z_ifb_eq Z 37 dX7_add_23 (by decide) (fun h23 => ?_) (fun h23 => ?_)
    · have h23 := of_decide_eq_false h23
      exfalso; first | contradiction | omega
    · have h23 := of_decide_eq_true h23
      refine z_aload_n Z dX7_add_26 1 rfl ?_
      refine z_get Z dX7_add_27 zin_X7_add_X7 0 1 rfl rfl (by decide) zlk_X7_add_7 rfl ?_
      refine z_iconst (v := 0) Z dX7_add_30 rfl ?_
      refine z_iald Z dX7_add_31 1 (0) rfl (by omega) ⟨by omega, by omega⟩ ?_
      have he1 := hg (0) (by omega)
      refine z_bipush (v := 40) Z dX7_add_32 (by decide +kernel) ?_
      refine z_icmp_ne Z 41 dX7_add_34 (by decide) (by omega) (by omega) (fun h34 => ?_) (fun h34 => ?_)
      · refine z_iconst (v := 0) Z dX7_add_41 rfl ?_
        refine z_callVu (rest := []) Z dX7_add_42 6 0 _ _ rfl rfl rfl (zc_X7_holds l D ct (h0) (aS) (aF) (aX) (th) (sg) (sv) (ln) (ta) (f1) (l1) (f2) (l2) (0) (by first | assumption | omega)) (cwV 1 Z.1.2.2.2.2 gX7_add_X7_holds rfl rfl rfl (by decide +kernel) ⟨Nat.le_of_ble_eq_true rfl, Nat.le_of_ble_eq_true rfl⟩) rfl (Nat.le_of_ble_eq_true rfl) ⟨Nat.le_of_ble_eq_true rfl, Nat.le_of_ble_eq_true rfl⟩ [true, false, false, false] [zO h0 6 [zi 0, .ref aS, zi ((sv : Nat) : Int), .ref aF, .ref aX, zi ((ln : Nat) : Int), zi ((ta : Nat) : Int), zi sg, zi ((f1 : Nat) : Int), zi ((l1 : Nat) : Int), zi ((f2 : Nat) : Int), zi ((l2 : Nat) : Int)], zAI ct aS 3888 g, zAZ ct aF 2 fz, zAI ct aX 80 (zN tx)] [zi (zb (decide (0 = 0)))] rfl rfl rfl rfl ?_
        refine z_ifb_ne Z 50 dX7_add_45 (by decide) (fun h45 => ?_) (fun h45 => ?_)
        · have h45 := of_decide_eq_true h45
          refine z_aload_n Z dX7_add_50 1 rfl ?_
          refine z_callVu (rest := []) Z dX7_add_51 6 0 _ _ rfl rfl rfl (zc_X7_keeps l D ct (h0) (aS) (aF) (aX) (0) (sg) (sv) (ln) (ta) (f1) (l1) (f2) (l2) (g) (by first | assumption | omega)) (cwV 0 Z.1.2.2.2.2 gX7_add_X7_keeps rfl rfl rfl (by decide +kernel) ⟨Nat.le_of_ble_eq_true rfl, Nat.le_of_ble_eq_true rfl⟩) rfl (Nat.le_of_ble_eq_true rfl) ⟨Nat.le_of_ble_eq_true rfl, Nat.le_of_ble_eq_true rfl⟩ [true, true, false, false] [zO h0 6 [zi 0, .ref aS, zi ((kpS sv : Nat) : Int), .ref aF, .ref aX, zi ((ln : Nat) : Int), zi ((ta : Nat) : Int), zi sg, zi ((f1 : Nat) : Int), zi ((l1 : Nat) : Int), zi ((f2 : Nat) : Int), zi ((l2 : Nat) : Int)], zAI ct aS 3888 (kpG g sv), zAZ ct aF 2 fz, zAI ct aX 80 (zN tx)] [] rfl rfl rfl rfl ?_
          refine z_aload_n Z dX7_add_54 1 rfl ?_
          refine z_iconst (v := 0) Z dX7_add_55 rfl ?_
          refine z_aload_n Z dX7_add_56 1 rfl ?_
          refine z_get Z dX7_add_57 zin_X7_add_X7 0 5 rfl rfl (by decide) zlk_X7_add_65 rfl ?_
          refine z_callVu (rest := []) Z dX7_add_60 6 0 _ _ rfl rfl rfl (zc_X7_makes l D ct (h0) (aS) (aF) (aX) (0) (sg) (kpS sv) (ln) (ta) (f1) (l1) (f2) (l2) (kpG g sv) (tx) (cnt) (0) (ln) (kp_cn hsv hcn) (by first | assumption | omega) (kp_rg hsv hg) (kp_hs hsv hhs) (by first | assumption | omega) (by first | assumption | omega) (by first | assumption | omega) (fun j hj => by rw [Nat.zero_add]; exact hn.2 j hj) (by rw [kpG_lo g hsv (by omega)]; omega) (by rw [kpG_lo g hsv (by omega)]; omega) (by rw [kpG_lo g hsv (by omega)]; omega)) (cwV 2 Z.1.2.2.2.2 gX7_add_X7_makes rfl rfl rfl (by decide +kernel) ⟨Nat.le_of_ble_eq_true rfl, Nat.le_of_ble_eq_true rfl⟩) rfl (Nat.le_of_ble_eq_true rfl) ⟨Nat.le_of_ble_eq_true rfl, Nat.le_of_ble_eq_true rfl⟩ [true, true, false, true] [zO h0 6 [zi 0, .ref aS, zi (((kpS sv) : Nat) : Int), .ref aF, .ref aX, zi ((ln : Nat) : Int), zi ((ta : Nat) : Int), zi sg, zi ((f1 : Nat) : Int), zi ((l1 : Nat) : Int), zi ((f2 : Nat) : Int), zi ((l2 : Nat) : Int)], zAI ct aS 3888 (mkR (kpG g sv) tx 0 ln cnt), zAZ ct aF 2 fz, zAI ct aX 80 (zN tx)] [zi ((kpG g sv) 1)] rfl rfl rfl rfl ?_
          refine z_top (y := (g 1)) ((kpG_lo g hsv (by omega)).symm) ?_
          refine z_istore_n Z dX7_add_63 [(2, zi (g 1)), (1, zi (zb (decide ((1 ≤ ln ∧ ln ≤ 6) ∧ ∀ r, r < ln → 97 ≤ tx r ∧ tx r ≤ 122)))), (0, .ref h0)] (by decide) rfl ?_
          refine z_aload_n Z dX7_add_64 2 rfl ?_
          refine z_iconst (v := 0) Z dX7_add_65 rfl ?_
          refine z_put (ty := .int) Z dX7_add_66 zin_X7_add_X7 tyX7 tyX7_ok nmX7 0 5 [zO h0 6 [zi 0, .ref aS, zi (((kpS sv) : Nat) : Int), .ref aF, .ref aX, zi 0, zi ((ta : Nat) : Int), zi sg, zi ((f1 : Nat) : Int), zi ((l1 : Nat) : Int), zi ((f2 : Nat) : Int), zi ((l2 : Nat) : Int)], zAI ct aS 3888 (mkR (kpG g sv) tx 0 ln cnt), zAZ ct aF 2 fz, zAI ct aX 80 (zN tx)] rfl rfl (by decide) zlk_X7_add_65 rfl (by decide +kernel) rfl rfl (Nat.le_of_ble_eq_true rfl) rfl ?_
          refine z_iload_n Z dX7_add_69 0 rfl ?_
          refine z_eqs [zO h0 6 [zi 0, .ref aS, zi ((kpS sv : Nat) : Int), .ref aF, .ref aX, zi 0, zi ((ta : Nat) : Int), zi sg, zi ((f1 : Nat) : Int), zi ((l1 : Nat) : Int), zi ((f2 : Nat) : Int), zi ((l2 : Nat) : Int)], zAI ct aS 3888 (mkR (kpG g sv) tx 0 ln cnt), zAZ ct aF 2 fz, zAI ct aX 80 (zN tx)] _ [zi (g 1)] (rfl) rfl (rfl) ?_
          exact hR _ _ () trivial dX7_add_70
        · have h45 := of_decide_eq_false h45
          exfalso; first | contradiction | omega
      · exfalso; first | contradiction | omega
  · have h7 := of_decide_eq_false h7
    exfalso; first | contradiction | omega
set_option maxHeartbeats 4000000 in
set_option maxRecDepth 100000 in
theorem zc_X7_remove_1 (l : Launch) (D : va_G) (ct : zCT) (h0 : Nat) (aS : Nat) (aF : Nat) (aX : Nat) (th : Int) (sg : Int) (sv : Nat) (ln : Nat) (ta : Nat) (f1 : Nat) (l1 : Nat) (f2 : Nat) (l2 : Nat) (g : Nat → Int) (fz : Nat → Int) (tx : Nat → Nat) (cnt : Nat) (id : Int) (hcn : g 0 = ((cnt : Nat) : Int)) (hc : cnt ≤ 40) (hg : ∀ k, k < 432 → -2 ≤ g k ∧ g k < 70000) (hhs : ∀ k, k < 40 → 0 ≤ mI g k 1 ∧ mI g k 1 < 64) (ht : ∀ j, j < 80 → tx j < 128) (hln : ln ≤ 80) (hsv : sv ≤ 6) (h2 : 0 ≤ g 2 ∧ g 2 < 50000) (h3 : 0 ≤ g 3 ∧ g 3 < 50000) (h1 : 0 ≤ g 1 ∧ g 1 < 2000) (hid : -2147483648 ≤ id ∧ id < 2147483648) (hne : fo2 (mP g id) cnt = -2) : zMet l yX7_remove wsX7_remove ({ frames := 2, cells := 0, slots := 0, locals := 44 } : Room) D ct [.ref h0, zi id] [zO h0 6 [zi th, .ref aS, zi ((sv : Nat) : Int), .ref aF, .ref aX, zi ((ln : Nat) : Int), zi ((ta : Nat) : Int), zi sg, zi ((f1 : Nat) : Int), zi ((l1 : Nat) : Int), zi ((f2 : Nat) : Int), zi ((l2 : Nat) : Int)], zAI ct aS 3888 g, zAZ ct aF 2 fz, zAI ct aX 80 (zN tx)] (fun _ : Unit => True) (fun _ => some (zi (0))) (fun _ => [zO h0 6 [zi 1, .ref aS, zi ((sv : Nat) : Int), .ref aF, .ref aX, zi ((ln : Nat) : Int), zi ((ta : Nat) : Int), zi sg, zi ((f1 : Nat) : Int), zi ((l1 : Nat) : Int), zi ((f2 : Nat) : Int), zi ((l2 : Nat) : Int)], zAI ct aS 3888 g, zAZ ct aF 2 fz, zAI ct aX 80 (zN tx)]) 0 0 := by
  refine zMet_i (cc := cX7_remove) (maxL := 2) (r := fun _ => 0) (by decide) rfl (Nat.le_of_ble_eq_true rfl) ?_
  intro p e s m below meth c A Q Z hnm hR
  refine z_eqs _ [(0, .ref h0), (1, zi id)] _ rfl rfl rfl ?_
  refine z_aload_n Z dX7_remove_0 0 rfl ?_
  refine z_aload_n Z dX7_remove_1 0 rfl ?_
  refine z_iload_n Z dX7_remove_2 1 rfl ?_
  refine z_callVu (rest := [.ref h0]) Z dX7_remove_3 6 0 _ _ rfl rfl rfl (zc_X7_placeOf l D ct (h0) (aS) (aF) (aX) (th) (sg) (sv) (ln) (ta) (f1) (l1) (f2) (l2) (g) (cnt) (id) (by first | assumption | omega) (by first | assumption | omega) (by first | assumption | omega) (by first | assumption | omega)) (cwV 1 Z.1.2.2.2.2 gX7_remove_X7_placeOf rfl rfl rfl (by decide +kernel) ⟨Nat.le_of_ble_eq_true rfl, Nat.le_of_ble_eq_true rfl⟩) rfl (Nat.le_of_ble_eq_true rfl) ⟨Nat.le_of_ble_eq_true rfl, Nat.le_of_ble_eq_true rfl⟩ [true, true, false, false] [zO h0 6 [zi th, .ref aS, zi ((sv : Nat) : Int), .ref aF, .ref aX, zi ((ln : Nat) : Int), zi ((ta : Nat) : Int), zi sg, zi ((f1 : Nat) : Int), zi ((l1 : Nat) : Int), zi ((f2 : Nat) : Int), zi ((l2 : Nat) : Int)], zAI ct aS 3888 g, zAZ ct aF 2 fz, zAI ct aX 80 (zN tx)] [zi (fo2 (mP g id) cnt), .ref h0] rfl rfl rfl rfl ?_
  have hf9 := fo2_rg (mP g id) cnt
  have hf8 := fo2_ge (mP g id) cnt
  refine z_bipush (v := -2) Z dX7_remove_6 (by decide +kernel) ?_
  refine z_icmp_ne Z 15 dX7_remove_8 (by decide) (by omega) (by omega) (fun h8 => ?_) (fun h8 => ?_)
  · exfalso; first | contradiction | omega
  · refine z_iconst (v := 1) Z dX7_remove_11 rfl ?_
    refine z_goto Z 16 dX7_remove_12 (by decide) ?_
    refine z_callVu (rest := []) Z dX7_remove_16 6 0 _ _ rfl rfl rfl (zc_X7_holds l D ct (h0) (aS) (aF) (aX) (th) (sg) (sv) (ln) (ta) (f1) (l1) (f2) (l2) (1) (by first | assumption | omega)) (cwV 1 Z.1.2.2.2.2 gX7_remove_X7_holds rfl rfl rfl (by decide +kernel) ⟨Nat.le_of_ble_eq_true rfl, Nat.le_of_ble_eq_true rfl⟩) rfl (Nat.le_of_ble_eq_true rfl) ⟨Nat.le_of_ble_eq_true rfl, Nat.le_of_ble_eq_true rfl⟩ [true, false, false, false] [zO h0 6 [zi 1, .ref aS, zi ((sv : Nat) : Int), .ref aF, .ref aX, zi ((ln : Nat) : Int), zi ((ta : Nat) : Int), zi sg, zi ((f1 : Nat) : Int), zi ((l1 : Nat) : Int), zi ((f2 : Nat) : Int), zi ((l2 : Nat) : Int)], zAI ct aS 3888 g, zAZ ct aF 2 fz, zAI ct aX 80 (zN tx)] [zi (zb (decide (1 = 0)))] rfl rfl rfl rfl ?_
    refine z_ifb_ne Z 24 dX7_remove_19 (by decide) (fun h19 => ?_) (fun h19 => ?_)
    · have h19 := of_decide_eq_true h19
      exfalso; first | contradiction | omega
    · have h19 := of_decide_eq_false h19
      refine z_iconst (v := 0) Z dX7_remove_22 rfl ?_
      refine z_eqs [zO h0 6 [zi 1, .ref aS, zi ((sv : Nat) : Int), .ref aF, .ref aX, zi ((ln : Nat) : Int), zi ((ta : Nat) : Int), zi sg, zi ((f1 : Nat) : Int), zi ((l1 : Nat) : Int), zi ((f2 : Nat) : Int), zi ((l2 : Nat) : Int)], zAI ct aS 3888 g, zAZ ct aF 2 fz, zAI ct aX 80 (zN tx)] _ [zi 0] (rfl) rfl (rfl) ?_
      exact hR _ _ () trivial dX7_remove_23
theorem zin_X7_remove_X7 : ∀ w ∈ wsX70, w ∈ wsX7_remove := by decide +kernel
theorem zlk_X7_remove_7 : Cond.fieldLink RX7 7 "HashedDirectoryModel" "s" "[I" ∈ wsX7_remove := by decide +kernel
set_option maxHeartbeats 4000000 in
set_option maxRecDepth 100000 in
theorem zc_X7_remove_0 (l : Launch) (D : va_G) (ct : zCT) (h0 : Nat) (aS : Nat) (aF : Nat) (aX : Nat) (th : Int) (sg : Int) (sv : Nat) (ln : Nat) (ta : Nat) (f1 : Nat) (l1 : Nat) (f2 : Nat) (l2 : Nat) (g : Nat → Int) (fz : Nat → Int) (tx : Nat → Nat) (cnt : Nat) (id : Int) (hcn : g 0 = ((cnt : Nat) : Int)) (hc : cnt ≤ 40) (hg : ∀ k, k < 432 → -2 ≤ g k ∧ g k < 70000) (hhs : ∀ k, k < 40 → 0 ≤ mI g k 1 ∧ mI g k 1 < 64) (ht : ∀ j, j < 80 → tx j < 128) (hln : ln ≤ 80) (hsv : sv ≤ 6) (h2 : 0 ≤ g 2 ∧ g 2 < 50000) (h3 : 0 ≤ g 3 ∧ g 3 < 50000) (h1 : 0 ≤ g 1 ∧ g 1 < 2000) (hid : -2147483648 ≤ id ∧ id < 2147483648) (hne : fo2 (mP g id) cnt ≠ -2) : zMet l yX7_remove wsX7_remove ({ frames := 4, cells := 0, slots := 0, locals := 91 } : Room) D ct [.ref h0, zi id] [zO h0 6 [zi th, .ref aS, zi ((sv : Nat) : Int), .ref aF, .ref aX, zi ((ln : Nat) : Int), zi ((ta : Nat) : Int), zi sg, zi ((f1 : Nat) : Int), zi ((l1 : Nat) : Int), zi ((f2 : Nat) : Int), zi ((l2 : Nat) : Int)], zAI ct aS 3888 g, zAZ ct aF 2 fz, zAI ct aX 80 (zN tx)] (fun _ : Unit => True) (fun _ => some (zi (((cnt - 1 : Nat) : Int)))) (fun _ => [zO h0 6 [zi 0, .ref aS, zi ((kpS sv : Nat) : Int), .ref aF, .ref aX, zi ((ln : Nat) : Int), zi ((ta : Nat) : Int), zi sg, zi ((f1 : Nat) : Int), zi ((l1 : Nat) : Int), zi ((f2 : Nat) : Int), zi ((l2 : Nat) : Int)], zAI ct aS 3888 (mtR (kpG g sv) cnt (fo2 (mP g id) cnt).toNat), zAZ ct aF 2 fz, zAI ct aX 80 (zN tx)]) 0 0 := by
  refine zMet_i (cc := cX7_remove) (maxL := 2) (r := fun _ => ((cnt - 1 : Nat) : Int)) (by decide) rfl (Nat.le_of_ble_eq_true rfl) ?_
  intro p e s m below meth c A Q Z hnm hR
  refine z_eqs _ [(0, .ref h0), (1, zi id)] _ rfl rfl rfl ?_
  refine z_aload_n Z dX7_remove_0 0 rfl ?_
  refine z_aload_n Z dX7_remove_1 0 rfl ?_
  refine z_iload_n Z dX7_remove_2 1 rfl ?_
  refine z_callVu (rest := [.ref h0]) Z dX7_remove_3 6 0 _ _ rfl rfl rfl (zc_X7_placeOf l D ct (h0) (aS) (aF) (aX) (th) (sg) (sv) (ln) (ta) (f1) (l1) (f2) (l2) (g) (cnt) (id) (by first | assumption | omega) (by first | assumption | omega) (by first | assumption | omega) (by first | assumption | omega)) (cwV 1 Z.1.2.2.2.2 gX7_remove_X7_placeOf rfl rfl rfl (by decide +kernel) ⟨Nat.le_of_ble_eq_true rfl, Nat.le_of_ble_eq_true rfl⟩) rfl (Nat.le_of_ble_eq_true rfl) ⟨Nat.le_of_ble_eq_true rfl, Nat.le_of_ble_eq_true rfl⟩ [true, true, false, false] [zO h0 6 [zi th, .ref aS, zi ((sv : Nat) : Int), .ref aF, .ref aX, zi ((ln : Nat) : Int), zi ((ta : Nat) : Int), zi sg, zi ((f1 : Nat) : Int), zi ((l1 : Nat) : Int), zi ((f2 : Nat) : Int), zi ((l2 : Nat) : Int)], zAI ct aS 3888 g, zAZ ct aF 2 fz, zAI ct aX 80 (zN tx)] [zi (fo2 (mP g id) cnt), .ref h0] rfl rfl rfl rfl ?_
  have hf9 := fo2_rg (mP g id) cnt
  have hf8 := fo2_ge (mP g id) cnt
  refine z_bipush (v := -2) Z dX7_remove_6 (by decide +kernel) ?_
  refine z_icmp_ne Z 15 dX7_remove_8 (by decide) (by omega) (by omega) (fun h8 => ?_) (fun h8 => ?_)
  · refine z_iconst (v := 0) Z dX7_remove_15 rfl ?_
    refine z_callVu (rest := []) Z dX7_remove_16 6 0 _ _ rfl rfl rfl (zc_X7_holds l D ct (h0) (aS) (aF) (aX) (th) (sg) (sv) (ln) (ta) (f1) (l1) (f2) (l2) (0) (by first | assumption | omega)) (cwV 1 Z.1.2.2.2.2 gX7_remove_X7_holds rfl rfl rfl (by decide +kernel) ⟨Nat.le_of_ble_eq_true rfl, Nat.le_of_ble_eq_true rfl⟩) rfl (Nat.le_of_ble_eq_true rfl) ⟨Nat.le_of_ble_eq_true rfl, Nat.le_of_ble_eq_true rfl⟩ [true, false, false, false] [zO h0 6 [zi 0, .ref aS, zi ((sv : Nat) : Int), .ref aF, .ref aX, zi ((ln : Nat) : Int), zi ((ta : Nat) : Int), zi sg, zi ((f1 : Nat) : Int), zi ((l1 : Nat) : Int), zi ((f2 : Nat) : Int), zi ((l2 : Nat) : Int)], zAI ct aS 3888 g, zAZ ct aF 2 fz, zAI ct aX 80 (zN tx)] [zi (zb (decide (0 = 0)))] rfl rfl rfl rfl ?_
    refine z_ifb_ne Z 24 dX7_remove_19 (by decide) (fun h19 => ?_) (fun h19 => ?_)
    · have h19 := of_decide_eq_true h19
      refine z_aload_n Z dX7_remove_24 0 rfl ?_
      refine z_callVu (rest := []) Z dX7_remove_25 6 0 _ _ rfl rfl rfl (zc_X7_keeps l D ct (h0) (aS) (aF) (aX) (0) (sg) (sv) (ln) (ta) (f1) (l1) (f2) (l2) (g) (by first | assumption | omega)) (cwV 0 Z.1.2.2.2.2 gX7_remove_X7_keeps rfl rfl rfl (by decide +kernel) ⟨Nat.le_of_ble_eq_true rfl, Nat.le_of_ble_eq_true rfl⟩) rfl (Nat.le_of_ble_eq_true rfl) ⟨Nat.le_of_ble_eq_true rfl, Nat.le_of_ble_eq_true rfl⟩ [true, true, false, false] [zO h0 6 [zi 0, .ref aS, zi ((kpS sv : Nat) : Int), .ref aF, .ref aX, zi ((ln : Nat) : Int), zi ((ta : Nat) : Int), zi sg, zi ((f1 : Nat) : Int), zi ((l1 : Nat) : Int), zi ((f2 : Nat) : Int), zi ((l2 : Nat) : Int)], zAI ct aS 3888 (kpG g sv), zAZ ct aF 2 fz, zAI ct aX 80 (zN tx)] [] rfl rfl rfl rfl ?_
      refine z_aload_n Z dX7_remove_28 0 rfl ?_
      refine z_aload_n Z dX7_remove_29 0 rfl ?_
      refine z_iload_n Z dX7_remove_30 1 rfl ?_
      refine z_callVu (rest := [.ref h0]) Z dX7_remove_31 6 0 _ _ rfl rfl rfl (zc_X7_placeOf l D ct (h0) (aS) (aF) (aX) (0) (sg) (kpS sv) (ln) (ta) (f1) (l1) (f2) (l2) (kpG g sv) (cnt) (id) (kp_cn hsv hcn) (by first | assumption | omega) (kp_rg hsv hg) (by first | assumption | omega)) (cwV 1 Z.1.2.2.2.2 gX7_remove_X7_placeOf rfl rfl rfl (by decide +kernel) ⟨Nat.le_of_ble_eq_true rfl, Nat.le_of_ble_eq_true rfl⟩) rfl (Nat.le_of_ble_eq_true rfl) ⟨Nat.le_of_ble_eq_true rfl, Nat.le_of_ble_eq_true rfl⟩ [true, true, false, false] [zO h0 6 [zi 0, .ref aS, zi (((kpS sv) : Nat) : Int), .ref aF, .ref aX, zi ((ln : Nat) : Int), zi ((ta : Nat) : Int), zi sg, zi ((f1 : Nat) : Int), zi ((l1 : Nat) : Int), zi ((f2 : Nat) : Int), zi ((l2 : Nat) : Int)], zAI ct aS 3888 (kpG g sv), zAZ ct aF 2 fz, zAI ct aX 80 (zN tx)] [zi (fo2 (mP (kpG g sv) id) cnt), .ref h0] rfl rfl rfl rfl ?_
      refine z_top (y := (((fo2 (mP g id) cnt).toNat : Nat) : Int)) (by rw [fo2_kp hsv hc]; omega) ?_
      refine z_eqs [zO h0 6 [zi 0, .ref aS, zi ((kpS sv : Nat) : Int), .ref aF, .ref aX, zi ((ln : Nat) : Int), zi ((ta : Nat) : Int), zi sg, zi ((f1 : Nat) : Int), zi ((l1 : Nat) : Int), zi ((f2 : Nat) : Int), zi ((l2 : Nat) : Int)], zAI ct aS 3888 (kpG g sv), zAZ ct aF 2 fz, zAI ct aX 80 (zN tx)] _ [zi (((fo2 (mP g id) cnt).toNat : Nat) : Int), .ref h0] (by rw [show (((kpS sv) : Nat) : Int) = ((kpS sv : Nat) : Int) from by omega]) rfl (rfl) ?_
      refine z_callVu (rest := []) Z dX7_remove_34 6 0 _ _ rfl rfl rfl (zc_X7_takesOut l D ct (h0) (aS) (aF) (aX) (0) (sg) (kpS sv) (ln) (ta) (f1) (l1) (f2) (l2) ((kpG g sv)) (cnt) ((fo2 (mP g id) cnt).toNat) (kp_cn hsv hcn) (by first | assumption | omega) (kp_rg hsv hg) (kp_hs hsv hhs) (by rw [kpG_lo g hsv (by omega)]; omega) (by rw [kpG_lo g hsv (by omega)]; omega) (by omega)) (cwV 1 Z.1.2.2.2.2 gX7_remove_X7_takesOut rfl rfl rfl (by decide +kernel) ⟨Nat.le_of_ble_eq_true rfl, Nat.le_of_ble_eq_true rfl⟩) rfl (Nat.le_of_ble_eq_true rfl) ⟨Nat.le_of_ble_eq_true rfl, Nat.le_of_ble_eq_true rfl⟩ [true, true, false, false] [zO h0 6 [zi 0, .ref aS, zi (((kpS sv) : Nat) : Int), .ref aF, .ref aX, zi ((ln : Nat) : Int), zi ((ta : Nat) : Int), zi sg, zi ((f1 : Nat) : Int), zi ((l1 : Nat) : Int), zi ((f2 : Nat) : Int), zi ((l2 : Nat) : Int)], zAI ct aS 3888 (mtR (kpG g sv) cnt ((fo2 (mP g id) cnt).toNat)), zAZ ct aF 2 fz, zAI ct aX 80 (zN tx)] [] rfl rfl rfl rfl ?_
      refine z_aload_n Z dX7_remove_37 0 rfl ?_
      refine z_get Z dX7_remove_38 zin_X7_remove_X7 0 1 rfl rfl (by decide) zlk_X7_remove_7 rfl ?_
      refine z_iconst (v := 0) Z dX7_remove_41 rfl ?_
      refine z_iald Z dX7_remove_42 1 (0) rfl (by omega) ⟨by omega, by omega⟩ ?_
      refine z_top (y := ((cnt - 1 : Nat) : Int)) ((mtR_0 _ _ _ (kp_h hsv hhs (by omega))).symm) ?_
      refine z_eqs [zO h0 6 [zi 0, .ref aS, zi ((kpS sv : Nat) : Int), .ref aF, .ref aX, zi ((ln : Nat) : Int), zi ((ta : Nat) : Int), zi sg, zi ((f1 : Nat) : Int), zi ((l1 : Nat) : Int), zi ((f2 : Nat) : Int), zi ((l2 : Nat) : Int)], zAI ct aS 3888 (mtR (kpG g sv) cnt (fo2 (mP g id) cnt).toNat), zAZ ct aF 2 fz, zAI ct aX 80 (zN tx)] _ [zi ((cnt - 1 : Nat) : Int)] (rfl) rfl (rfl) ?_
      exact hR _ _ () trivial dX7_remove_43
    · have h19 := of_decide_eq_false h19
      exfalso; first | contradiction | omega
  · exfalso; first | contradiction | omega
set_option maxHeartbeats 4000000 in
set_option maxRecDepth 100000 in
theorem zc_X7_rename_1 (l : Launch) (D : va_G) (ct : zCT) (h0 : Nat) (aS : Nat) (aF : Nat) (aX : Nat) (th : Int) (sg : Int) (sv : Nat) (ln : Nat) (ta : Nat) (f1 : Nat) (l1 : Nat) (f2 : Nat) (l2 : Nat) (g : Nat → Int) (fz : Nat → Int) (tx : Nat → Nat) (cnt : Nat) (id : Int) (hcn : g 0 = ((cnt : Nat) : Int)) (hc : cnt ≤ 40) (hg : ∀ k, k < 432 → -2 ≤ g k ∧ g k < 70000) (hhs : ∀ k, k < 40 → 0 ≤ mI g k 1 ∧ mI g k 1 < 64) (ht : ∀ j, j < 80 → tx j < 128) (hln : ln ≤ 80) (hsv : sv ≤ 6) (h2 : 0 ≤ g 2 ∧ g 2 < 50000) (h3 : 0 ≤ g 3 ∧ g 3 < 50000) (h1 : 0 ≤ g 1 ∧ g 1 < 2000) (hid : -2147483648 ≤ id ∧ id < 2147483648) (hne : fo2 (mP g id) cnt = -2) : zMet l yX7_rename wsX7_rename ({ frames := 2, cells := 0, slots := 0, locals := 44 } : Room) D ct [.ref h0, zi id] [zO h0 6 [zi th, .ref aS, zi ((sv : Nat) : Int), .ref aF, .ref aX, zi ((ln : Nat) : Int), zi ((ta : Nat) : Int), zi sg, zi ((f1 : Nat) : Int), zi ((l1 : Nat) : Int), zi ((f2 : Nat) : Int), zi ((l2 : Nat) : Int)], zAI ct aS 3888 g, zAZ ct aF 2 fz, zAI ct aX 80 (zN tx)] (fun _ : Unit => True) (fun _ => some (zi (0))) (fun _ => [zO h0 6 [zi 1, .ref aS, zi ((sv : Nat) : Int), .ref aF, .ref aX, zi ((ln : Nat) : Int), zi ((ta : Nat) : Int), zi sg, zi ((f1 : Nat) : Int), zi ((l1 : Nat) : Int), zi ((f2 : Nat) : Int), zi ((l2 : Nat) : Int)], zAI ct aS 3888 g, zAZ ct aF 2 fz, zAI ct aX 80 (zN tx)]) 0 0 := by
  refine zMet_i (cc := cX7_rename) (maxL := 4) (r := fun _ => 0) (by decide) rfl (Nat.le_of_ble_eq_true rfl) ?_
  intro p e s m below meth c A Q Z hnm hR
  refine z_eqs _ [(0, .ref h0), (1, zi id)] _ rfl rfl rfl ?_
  refine z_aload_n Z dX7_rename_0 0 rfl ?_
  refine z_callVu (rest := []) Z dX7_rename_1 6 0 _ _ rfl rfl rfl (zc_X7_isName l D ct (h0) (aS) (aF) (aX) (th) (sg) (sv) (ln) (ta) (f1) (l1) (f2) (l2) (tx) (by first | assumption | omega) (by first | assumption | omega)) (cwV 0 Z.1.2.2.2.2 gX7_rename_X7_isName rfl rfl rfl (by decide +kernel) ⟨Nat.le_of_ble_eq_true rfl, Nat.le_of_ble_eq_true rfl⟩) rfl (Nat.le_of_ble_eq_true rfl) ⟨Nat.le_of_ble_eq_true rfl, Nat.le_of_ble_eq_true rfl⟩ [true, false, false, true] [zO h0 6 [zi th, .ref aS, zi ((sv : Nat) : Int), .ref aF, .ref aX, zi ((ln : Nat) : Int), zi ((ta : Nat) : Int), zi sg, zi ((f1 : Nat) : Int), zi ((l1 : Nat) : Int), zi ((f2 : Nat) : Int), zi ((l2 : Nat) : Int)], zAI ct aS 3888 g, zAZ ct aF 2 fz, zAI ct aX 80 (zN tx)] [zi (zb (decide ((1 ≤ ln ∧ ln ≤ 6) ∧ ∀ r, r < ln → 97 ≤ tx r ∧ tx r ≤ 122)))] rfl rfl rfl rfl ?_
  refine z_istore_n Z dX7_rename_4 [(2, zi (zb (decide ((1 ≤ ln ∧ ln ≤ 6) ∧ ∀ r, r < ln → 97 ≤ tx r ∧ tx r ≤ 122)))), (0, .ref h0), (1, zi id)] (by decide) rfl ?_
  refine z_aload_n Z dX7_rename_5 1 rfl ?_
  refine z_aload_n Z dX7_rename_6 1 rfl ?_
  refine z_iload_n Z dX7_rename_7 2 rfl ?_
  refine z_callVu (rest := [.ref h0]) Z dX7_rename_8 6 0 _ _ rfl rfl rfl (zc_X7_placeOf l D ct (h0) (aS) (aF) (aX) (th) (sg) (sv) (ln) (ta) (f1) (l1) (f2) (l2) (g) (cnt) (id) (by first | assumption | omega) (by first | assumption | omega) (by first | assumption | omega) (by first | assumption | omega)) (cwV 1 Z.1.2.2.2.2 gX7_rename_X7_placeOf rfl rfl rfl (by decide +kernel) ⟨Nat.le_of_ble_eq_true rfl, Nat.le_of_ble_eq_true rfl⟩) rfl (Nat.le_of_ble_eq_true rfl) ⟨Nat.le_of_ble_eq_true rfl, Nat.le_of_ble_eq_true rfl⟩ [true, true, false, false] [zO h0 6 [zi th, .ref aS, zi ((sv : Nat) : Int), .ref aF, .ref aX, zi ((ln : Nat) : Int), zi ((ta : Nat) : Int), zi sg, zi ((f1 : Nat) : Int), zi ((l1 : Nat) : Int), zi ((f2 : Nat) : Int), zi ((l2 : Nat) : Int)], zAI ct aS 3888 g, zAZ ct aF 2 fz, zAI ct aX 80 (zN tx)] [zi (fo2 (mP g id) cnt), .ref h0] rfl rfl rfl rfl ?_
  have hf9 := fo2_rg (mP g id) cnt
  have hf8 := fo2_ge (mP g id) cnt
  refine z_bipush (v := -2) Z dX7_rename_11 (by decide +kernel) ?_
  refine z_icmp_ne Z 20 dX7_rename_13 (by decide) (by omega) (by omega) (fun h13 => ?_) (fun h13 => ?_)
  · exfalso; first | contradiction | omega
  · refine z_iconst (v := 1) Z dX7_rename_16 rfl ?_
    refine z_goto Z 45 dX7_rename_17 (by decide) ?_
    refine z_callVu (rest := []) Z dX7_rename_45 6 0 _ _ rfl rfl rfl (zc_X7_holds l D ct (h0) (aS) (aF) (aX) (th) (sg) (sv) (ln) (ta) (f1) (l1) (f2) (l2) (1) (by first | assumption | omega)) (cwV 1 Z.1.2.2.2.2 gX7_rename_X7_holds rfl rfl rfl (by decide +kernel) ⟨Nat.le_of_ble_eq_true rfl, Nat.le_of_ble_eq_true rfl⟩) rfl (Nat.le_of_ble_eq_true rfl) ⟨Nat.le_of_ble_eq_true rfl, Nat.le_of_ble_eq_true rfl⟩ [true, false, false, false] [zO h0 6 [zi 1, .ref aS, zi ((sv : Nat) : Int), .ref aF, .ref aX, zi ((ln : Nat) : Int), zi ((ta : Nat) : Int), zi sg, zi ((f1 : Nat) : Int), zi ((l1 : Nat) : Int), zi ((f2 : Nat) : Int), zi ((l2 : Nat) : Int)], zAI ct aS 3888 g, zAZ ct aF 2 fz, zAI ct aX 80 (zN tx)] [zi (zb (decide (1 = 0)))] rfl rfl rfl rfl ?_
    refine z_ifb_ne Z 53 dX7_rename_48 (by decide) (fun h48 => ?_) (fun h48 => ?_)
    · have h48 := of_decide_eq_true h48
      exfalso; first | contradiction | omega
    · have h48 := of_decide_eq_false h48
      refine z_iconst (v := 0) Z dX7_rename_51 rfl ?_
      refine z_eqs [zO h0 6 [zi 1, .ref aS, zi ((sv : Nat) : Int), .ref aF, .ref aX, zi ((ln : Nat) : Int), zi ((ta : Nat) : Int), zi sg, zi ((f1 : Nat) : Int), zi ((l1 : Nat) : Int), zi ((f2 : Nat) : Int), zi ((l2 : Nat) : Int)], zAI ct aS 3888 g, zAZ ct aF 2 fz, zAI ct aX 80 (zN tx)] _ [zi 0] (rfl) rfl (rfl) ?_
      exact hR _ _ () trivial dX7_rename_52
set_option maxHeartbeats 4000000 in
set_option maxRecDepth 100000 in
theorem zc_X7_rename_2 (l : Launch) (D : va_G) (ct : zCT) (h0 : Nat) (aS : Nat) (aF : Nat) (aX : Nat) (th : Int) (sg : Int) (sv : Nat) (ln : Nat) (ta : Nat) (f1 : Nat) (l1 : Nat) (f2 : Nat) (l2 : Nat) (g : Nat → Int) (fz : Nat → Int) (tx : Nat → Nat) (cnt : Nat) (id : Int) (hcn : g 0 = ((cnt : Nat) : Int)) (hc : cnt ≤ 40) (hg : ∀ k, k < 432 → -2 ≤ g k ∧ g k < 70000) (hhs : ∀ k, k < 40 → 0 ≤ mI g k 1 ∧ mI g k 1 < 64) (ht : ∀ j, j < 80 → tx j < 128) (hln : ln ≤ 80) (hsv : sv ≤ 6) (h2 : 0 ≤ g 2 ∧ g 2 < 50000) (h3 : 0 ≤ g 3 ∧ g 3 < 50000) (h1 : 0 ≤ g 1 ∧ g 1 < 2000) (hid : -2147483648 ≤ id ∧ id < 2147483648) (hne : fo2 (mP g id) cnt ≠ -2) (hn : ¬ ((1 ≤ ln ∧ ln ≤ 6) ∧ ∀ r, r < ln → 97 ≤ tx r ∧ tx r ≤ 122)) : zMet l yX7_rename wsX7_rename ({ frames := 2, cells := 0, slots := 0, locals := 44 } : Room) D ct [.ref h0, zi id] [zO h0 6 [zi th, .ref aS, zi ((sv : Nat) : Int), .ref aF, .ref aX, zi ((ln : Nat) : Int), zi ((ta : Nat) : Int), zi sg, zi ((f1 : Nat) : Int), zi ((l1 : Nat) : Int), zi ((f2 : Nat) : Int), zi ((l2 : Nat) : Int)], zAI ct aS 3888 g, zAZ ct aF 2 fz, zAI ct aX 80 (zN tx)] (fun _ : Unit => True) (fun _ => some (zi (0))) (fun _ => [zO h0 6 [zi 2, .ref aS, zi ((sv : Nat) : Int), .ref aF, .ref aX, zi ((ln : Nat) : Int), zi ((ta : Nat) : Int), zi sg, zi ((f1 : Nat) : Int), zi ((l1 : Nat) : Int), zi ((f2 : Nat) : Int), zi ((l2 : Nat) : Int)], zAI ct aS 3888 g, zAZ ct aF 2 fz, zAI ct aX 80 (zN tx)]) 0 0 := by
  refine zMet_i (cc := cX7_rename) (maxL := 4) (r := fun _ => 0) (by decide) rfl (Nat.le_of_ble_eq_true rfl) ?_
  intro p e s m below meth c A Q Z hnm hR
  refine z_eqs _ [(0, .ref h0), (1, zi id)] _ rfl rfl rfl ?_
  refine z_aload_n Z dX7_rename_0 0 rfl ?_
  refine z_callVu (rest := []) Z dX7_rename_1 6 0 _ _ rfl rfl rfl (zc_X7_isName l D ct (h0) (aS) (aF) (aX) (th) (sg) (sv) (ln) (ta) (f1) (l1) (f2) (l2) (tx) (by first | assumption | omega) (by first | assumption | omega)) (cwV 0 Z.1.2.2.2.2 gX7_rename_X7_isName rfl rfl rfl (by decide +kernel) ⟨Nat.le_of_ble_eq_true rfl, Nat.le_of_ble_eq_true rfl⟩) rfl (Nat.le_of_ble_eq_true rfl) ⟨Nat.le_of_ble_eq_true rfl, Nat.le_of_ble_eq_true rfl⟩ [true, false, false, true] [zO h0 6 [zi th, .ref aS, zi ((sv : Nat) : Int), .ref aF, .ref aX, zi ((ln : Nat) : Int), zi ((ta : Nat) : Int), zi sg, zi ((f1 : Nat) : Int), zi ((l1 : Nat) : Int), zi ((f2 : Nat) : Int), zi ((l2 : Nat) : Int)], zAI ct aS 3888 g, zAZ ct aF 2 fz, zAI ct aX 80 (zN tx)] [zi (zb (decide ((1 ≤ ln ∧ ln ≤ 6) ∧ ∀ r, r < ln → 97 ≤ tx r ∧ tx r ≤ 122)))] rfl rfl rfl rfl ?_
  refine z_istore_n Z dX7_rename_4 [(2, zi (zb (decide ((1 ≤ ln ∧ ln ≤ 6) ∧ ∀ r, r < ln → 97 ≤ tx r ∧ tx r ≤ 122)))), (0, .ref h0), (1, zi id)] (by decide) rfl ?_
  refine z_aload_n Z dX7_rename_5 1 rfl ?_
  refine z_aload_n Z dX7_rename_6 1 rfl ?_
  refine z_iload_n Z dX7_rename_7 2 rfl ?_
  refine z_callVu (rest := [.ref h0]) Z dX7_rename_8 6 0 _ _ rfl rfl rfl (zc_X7_placeOf l D ct (h0) (aS) (aF) (aX) (th) (sg) (sv) (ln) (ta) (f1) (l1) (f2) (l2) (g) (cnt) (id) (by first | assumption | omega) (by first | assumption | omega) (by first | assumption | omega) (by first | assumption | omega)) (cwV 1 Z.1.2.2.2.2 gX7_rename_X7_placeOf rfl rfl rfl (by decide +kernel) ⟨Nat.le_of_ble_eq_true rfl, Nat.le_of_ble_eq_true rfl⟩) rfl (Nat.le_of_ble_eq_true rfl) ⟨Nat.le_of_ble_eq_true rfl, Nat.le_of_ble_eq_true rfl⟩ [true, true, false, false] [zO h0 6 [zi th, .ref aS, zi ((sv : Nat) : Int), .ref aF, .ref aX, zi ((ln : Nat) : Int), zi ((ta : Nat) : Int), zi sg, zi ((f1 : Nat) : Int), zi ((l1 : Nat) : Int), zi ((f2 : Nat) : Int), zi ((l2 : Nat) : Int)], zAI ct aS 3888 g, zAZ ct aF 2 fz, zAI ct aX 80 (zN tx)] [zi (fo2 (mP g id) cnt), .ref h0] rfl rfl rfl rfl ?_
  have hf9 := fo2_rg (mP g id) cnt
  have hf8 := fo2_ge (mP g id) cnt
  refine z_bipush (v := -2) Z dX7_rename_11 (by decide +kernel) ?_
  refine z_icmp_ne Z 20 dX7_rename_13 (by decide) (by omega) (by omega) (fun h13 => ?_) (fun h13 => ?_)
  · refine z_iload_n Z dX7_rename_20 0 rfl ?_
    refine z_ifb_ne Z 28 dX7_rename_21 (by decide) (fun h21 => ?_) (fun h21 => ?_)
    · have h21 := of_decide_eq_true h21
      exfalso; first | contradiction | omega
    · have h21 := of_decide_eq_false h21
      refine z_iconst (v := 2) Z dX7_rename_24 rfl ?_
      refine z_goto Z 45 dX7_rename_25 (by decide) ?_
      refine z_callVu (rest := []) Z dX7_rename_45 6 0 _ _ rfl rfl rfl (zc_X7_holds l D ct (h0) (aS) (aF) (aX) (th) (sg) (sv) (ln) (ta) (f1) (l1) (f2) (l2) (2) (by first | assumption | omega)) (cwV 1 Z.1.2.2.2.2 gX7_rename_X7_holds rfl rfl rfl (by decide +kernel) ⟨Nat.le_of_ble_eq_true rfl, Nat.le_of_ble_eq_true rfl⟩) rfl (Nat.le_of_ble_eq_true rfl) ⟨Nat.le_of_ble_eq_true rfl, Nat.le_of_ble_eq_true rfl⟩ [true, false, false, false] [zO h0 6 [zi 2, .ref aS, zi ((sv : Nat) : Int), .ref aF, .ref aX, zi ((ln : Nat) : Int), zi ((ta : Nat) : Int), zi sg, zi ((f1 : Nat) : Int), zi ((l1 : Nat) : Int), zi ((f2 : Nat) : Int), zi ((l2 : Nat) : Int)], zAI ct aS 3888 g, zAZ ct aF 2 fz, zAI ct aX 80 (zN tx)] [zi (zb (decide (2 = 0)))] rfl rfl rfl rfl ?_
      refine z_ifb_ne Z 53 dX7_rename_48 (by decide) (fun h48 => ?_) (fun h48 => ?_)
      · have h48 := of_decide_eq_true h48
        exfalso; first | contradiction | omega
      · have h48 := of_decide_eq_false h48
        refine z_iconst (v := 0) Z dX7_rename_51 rfl ?_
        refine z_eqs [zO h0 6 [zi 2, .ref aS, zi ((sv : Nat) : Int), .ref aF, .ref aX, zi ((ln : Nat) : Int), zi ((ta : Nat) : Int), zi sg, zi ((f1 : Nat) : Int), zi ((l1 : Nat) : Int), zi ((f2 : Nat) : Int), zi ((l2 : Nat) : Int)], zAI ct aS 3888 g, zAZ ct aF 2 fz, zAI ct aX 80 (zN tx)] _ [zi 0] (rfl) rfl (rfl) ?_
        exact hR _ _ () trivial dX7_rename_52
  · exfalso; first | contradiction | omega
theorem zin_X7_rename_X7 : ∀ w ∈ wsX70, w ∈ wsX7_rename := by decide +kernel
theorem zlk_X7_rename_65 : Cond.fieldLink RX7 65 "HashedDirectoryModel" "length" "I" ∈ wsX7_rename := by decide +kernel
set_option maxHeartbeats 4000000 in
set_option maxRecDepth 100000 in
theorem zc_X7_rename_3 (l : Launch) (D : va_G) (ct : zCT) (h0 : Nat) (aS : Nat) (aF : Nat) (aX : Nat) (th : Int) (sg : Int) (sv : Nat) (ln : Nat) (ta : Nat) (f1 : Nat) (l1 : Nat) (f2 : Nat) (l2 : Nat) (g : Nat → Int) (fz : Nat → Int) (tx : Nat → Nat) (cnt : Nat) (id : Int) (hcn : g 0 = ((cnt : Nat) : Int)) (hc : cnt ≤ 40) (hg : ∀ k, k < 432 → -2 ≤ g k ∧ g k < 70000) (hhs : ∀ k, k < 40 → 0 ≤ mI g k 1 ∧ mI g k 1 < 64) (ht : ∀ j, j < 80 → tx j < 128) (hln : ln ≤ 80) (hsv : sv ≤ 6) (h2 : 0 ≤ g 2 ∧ g 2 < 50000) (h3 : 0 ≤ g 3 ∧ g 3 < 50000) (h1 : 0 ≤ g 1 ∧ g 1 < 2000) (hid : -2147483648 ≤ id ∧ id < 2147483648) (hne : fo2 (mP g id) cnt ≠ -2) (hn : (1 ≤ ln ∧ ln ≤ 6) ∧ ∀ r, r < ln → 97 ≤ tx r ∧ tx r ≤ 122) (hcm : ¬ (fo2 (mN g tx 0 ln) cnt = -2 ∧ g 1 < 1000)) : zMet l yX7_rename wsX7_rename ({ frames := 3, cells := 0, slots := 0, locals := 69 } : Room) D ct [.ref h0, zi id] [zO h0 6 [zi th, .ref aS, zi ((sv : Nat) : Int), .ref aF, .ref aX, zi ((ln : Nat) : Int), zi ((ta : Nat) : Int), zi sg, zi ((f1 : Nat) : Int), zi ((l1 : Nat) : Int), zi ((f2 : Nat) : Int), zi ((l2 : Nat) : Int)], zAI ct aS 3888 g, zAZ ct aF 2 fz, zAI ct aX 80 (zN tx)] (fun _ : Unit => True) (fun _ => some (zi (0))) (fun _ => [zO h0 6 [zi 3, .ref aS, zi ((sv : Nat) : Int), .ref aF, .ref aX, zi ((ln : Nat) : Int), zi ((ta : Nat) : Int), zi sg, zi ((f1 : Nat) : Int), zi ((l1 : Nat) : Int), zi ((f2 : Nat) : Int), zi ((l2 : Nat) : Int)], zAI ct aS 3888 g, zAZ ct aF 2 fz, zAI ct aX 80 (zN tx)]) 0 0 := by
  refine zMet_i (cc := cX7_rename) (maxL := 4) (r := fun _ => 0) (by decide) rfl (Nat.le_of_ble_eq_true rfl) ?_
  intro p e s m below meth c A Q Z hnm hR
  refine z_eqs _ [(0, .ref h0), (1, zi id)] _ rfl rfl rfl ?_
  have hn1 := hn.1
  have hn2 := hn.2
  refine z_aload_n Z dX7_rename_0 0 rfl ?_
  refine z_callVu (rest := []) Z dX7_rename_1 6 0 _ _ rfl rfl rfl (zc_X7_isName l D ct (h0) (aS) (aF) (aX) (th) (sg) (sv) (ln) (ta) (f1) (l1) (f2) (l2) (tx) (by first | assumption | omega) (by first | assumption | omega)) (cwV 0 Z.1.2.2.2.2 gX7_rename_X7_isName rfl rfl rfl (by decide +kernel) ⟨Nat.le_of_ble_eq_true rfl, Nat.le_of_ble_eq_true rfl⟩) rfl (Nat.le_of_ble_eq_true rfl) ⟨Nat.le_of_ble_eq_true rfl, Nat.le_of_ble_eq_true rfl⟩ [true, false, false, true] [zO h0 6 [zi th, .ref aS, zi ((sv : Nat) : Int), .ref aF, .ref aX, zi ((ln : Nat) : Int), zi ((ta : Nat) : Int), zi sg, zi ((f1 : Nat) : Int), zi ((l1 : Nat) : Int), zi ((f2 : Nat) : Int), zi ((l2 : Nat) : Int)], zAI ct aS 3888 g, zAZ ct aF 2 fz, zAI ct aX 80 (zN tx)] [zi (zb (decide ((1 ≤ ln ∧ ln ≤ 6) ∧ ∀ r, r < ln → 97 ≤ tx r ∧ tx r ≤ 122)))] rfl rfl rfl rfl ?_
  refine z_istore_n Z dX7_rename_4 [(2, zi (zb (decide ((1 ≤ ln ∧ ln ≤ 6) ∧ ∀ r, r < ln → 97 ≤ tx r ∧ tx r ≤ 122)))), (0, .ref h0), (1, zi id)] (by decide) rfl ?_
  refine z_aload_n Z dX7_rename_5 1 rfl ?_
  refine z_aload_n Z dX7_rename_6 1 rfl ?_
  refine z_iload_n Z dX7_rename_7 2 rfl ?_
  refine z_callVu (rest := [.ref h0]) Z dX7_rename_8 6 0 _ _ rfl rfl rfl (zc_X7_placeOf l D ct (h0) (aS) (aF) (aX) (th) (sg) (sv) (ln) (ta) (f1) (l1) (f2) (l2) (g) (cnt) (id) (by first | assumption | omega) (by first | assumption | omega) (by first | assumption | omega) (by first | assumption | omega)) (cwV 1 Z.1.2.2.2.2 gX7_rename_X7_placeOf rfl rfl rfl (by decide +kernel) ⟨Nat.le_of_ble_eq_true rfl, Nat.le_of_ble_eq_true rfl⟩) rfl (Nat.le_of_ble_eq_true rfl) ⟨Nat.le_of_ble_eq_true rfl, Nat.le_of_ble_eq_true rfl⟩ [true, true, false, false] [zO h0 6 [zi th, .ref aS, zi ((sv : Nat) : Int), .ref aF, .ref aX, zi ((ln : Nat) : Int), zi ((ta : Nat) : Int), zi sg, zi ((f1 : Nat) : Int), zi ((l1 : Nat) : Int), zi ((f2 : Nat) : Int), zi ((l2 : Nat) : Int)], zAI ct aS 3888 g, zAZ ct aF 2 fz, zAI ct aX 80 (zN tx)] [zi (fo2 (mP g id) cnt), .ref h0] rfl rfl rfl rfl ?_
  have hf9 := fo2_rg (mP g id) cnt
  have hf8 := fo2_ge (mP g id) cnt
  refine z_bipush (v := -2) Z dX7_rename_11 (by decide +kernel) ?_
  refine z_icmp_ne Z 20 dX7_rename_13 (by decide) (by omega) (by omega) (fun h13 => ?_) (fun h13 => ?_)
  · refine z_iload_n Z dX7_rename_20 0 rfl ?_
    refine z_ifb_ne Z 28 dX7_rename_21 (by decide) (fun h21 => ?_) (fun h21 => ?_)
    · have h21 := of_decide_eq_true h21
      refine z_aload_n Z dX7_rename_28 1 rfl ?_
      refine z_iconst (v := 0) Z dX7_rename_29 rfl ?_
      refine z_aload_n Z dX7_rename_30 1 rfl ?_
      refine z_get Z dX7_rename_31 zin_X7_rename_X7 0 5 rfl rfl (by decide) zlk_X7_rename_65 rfl ?_
      refine z_callVu (rest := [.ref h0]) Z dX7_rename_34 6 0 _ _ rfl rfl rfl (zc_X7_canMake l D ct (h0) (aS) (aF) (aX) (th) (sg) (sv) (ln) (ta) (f1) (l1) (f2) (l2) (g) (tx) (cnt) (0) (ln) (by first | assumption | omega) (by first | assumption | omega) (by first | assumption | omega) (by first | assumption | omega) (by first | assumption | omega) (by first | assumption | omega)) (cwV 2 Z.1.2.2.2.2 gX7_rename_X7_canMake rfl rfl rfl (by decide +kernel) ⟨Nat.le_of_ble_eq_true rfl, Nat.le_of_ble_eq_true rfl⟩) rfl (Nat.le_of_ble_eq_true rfl) ⟨Nat.le_of_ble_eq_true rfl, Nat.le_of_ble_eq_true rfl⟩ [true, true, false, true] [zO h0 6 [zi th, .ref aS, zi ((sv : Nat) : Int), .ref aF, .ref aX, zi ((ln : Nat) : Int), zi ((ta : Nat) : Int), zi sg, zi ((f1 : Nat) : Int), zi ((l1 : Nat) : Int), zi ((f2 : Nat) : Int), zi ((l2 : Nat) : Int)], zAI ct aS 3888 g, zAZ ct aF 2 fz, zAI ct aX 80 (zN tx)] [zi (zb (decide (fo2 (mN g tx 0 ln) cnt = -2 ∧ g 1 < 1000))), .ref h0] rfl rfl rfl rfl ?_
      refine z_ifb_ne Z 44 dX7_rename_37 (by decide) (fun h37 => ?_) (fun h37 => ?_)
      · have h37 := of_decide_eq_true h37
        exfalso; first | contradiction | omega
      · have h37 := of_decide_eq_false h37
        refine z_iconst (v := 3) Z dX7_rename_40 rfl ?_
        refine z_goto Z 45 dX7_rename_41 (by decide) ?_
        refine z_callVu (rest := []) Z dX7_rename_45 6 0 _ _ rfl rfl rfl (zc_X7_holds l D ct (h0) (aS) (aF) (aX) (th) (sg) (sv) (ln) (ta) (f1) (l1) (f2) (l2) (3) (by first | assumption | omega)) (cwV 1 Z.1.2.2.2.2 gX7_rename_X7_holds rfl rfl rfl (by decide +kernel) ⟨Nat.le_of_ble_eq_true rfl, Nat.le_of_ble_eq_true rfl⟩) rfl (Nat.le_of_ble_eq_true rfl) ⟨Nat.le_of_ble_eq_true rfl, Nat.le_of_ble_eq_true rfl⟩ [true, false, false, false] [zO h0 6 [zi 3, .ref aS, zi ((sv : Nat) : Int), .ref aF, .ref aX, zi ((ln : Nat) : Int), zi ((ta : Nat) : Int), zi sg, zi ((f1 : Nat) : Int), zi ((l1 : Nat) : Int), zi ((f2 : Nat) : Int), zi ((l2 : Nat) : Int)], zAI ct aS 3888 g, zAZ ct aF 2 fz, zAI ct aX 80 (zN tx)] [zi (zb (decide (3 = 0)))] rfl rfl rfl rfl ?_
        refine z_ifb_ne Z 53 dX7_rename_48 (by decide) (fun h48 => ?_) (fun h48 => ?_)
        · have h48 := of_decide_eq_true h48
          exfalso; first | contradiction | omega
        · have h48 := of_decide_eq_false h48
          refine z_iconst (v := 0) Z dX7_rename_51 rfl ?_
          refine z_eqs [zO h0 6 [zi 3, .ref aS, zi ((sv : Nat) : Int), .ref aF, .ref aX, zi ((ln : Nat) : Int), zi ((ta : Nat) : Int), zi sg, zi ((f1 : Nat) : Int), zi ((l1 : Nat) : Int), zi ((f2 : Nat) : Int), zi ((l2 : Nat) : Int)], zAI ct aS 3888 g, zAZ ct aF 2 fz, zAI ct aX 80 (zN tx)] _ [zi 0] (rfl) rfl (rfl) ?_
          exact hR _ _ () trivial dX7_rename_52
    · have h21 := of_decide_eq_false h21
      exfalso; first | contradiction | omega
  · exfalso; first | contradiction | omega
set_option maxHeartbeats 4000000 in
set_option maxRecDepth 100000 in
theorem zc_X7_rename_0 (l : Launch) (D : va_G) (ct : zCT) (h0 : Nat) (aS : Nat) (aF : Nat) (aX : Nat) (th : Int) (sg : Int) (sv : Nat) (ln : Nat) (ta : Nat) (f1 : Nat) (l1 : Nat) (f2 : Nat) (l2 : Nat) (g : Nat → Int) (fz : Nat → Int) (tx : Nat → Nat) (cnt : Nat) (id : Int) (hcn : g 0 = ((cnt : Nat) : Int)) (hc : cnt ≤ 40) (hg : ∀ k, k < 432 → -2 ≤ g k ∧ g k < 70000) (hhs : ∀ k, k < 40 → 0 ≤ mI g k 1 ∧ mI g k 1 < 64) (ht : ∀ j, j < 80 → tx j < 128) (hln : ln ≤ 80) (hsv : sv ≤ 6) (h2 : 0 ≤ g 2 ∧ g 2 < 50000) (h3 : 0 ≤ g 3 ∧ g 3 < 50000) (h1 : 0 ≤ g 1 ∧ g 1 < 2000) (hid : -2147483648 ≤ id ∧ id < 2147483648) (hne : fo2 (mP g id) cnt ≠ -2) (hn : (1 ≤ ln ∧ ln ≤ 6) ∧ ∀ r, r < ln → 97 ≤ tx r ∧ tx r ≤ 122) (hcm : fo2 (mN g tx 0 ln) cnt = -2 ∧ g 1 < 1000) : zMet l yX7_rename wsX7_rename ({ frames := 4, cells := 0, slots := 0, locals := 95 } : Room) D ct [.ref h0, zi id] [zO h0 6 [zi th, .ref aS, zi ((sv : Nat) : Int), .ref aF, .ref aX, zi ((ln : Nat) : Int), zi ((ta : Nat) : Int), zi sg, zi ((f1 : Nat) : Int), zi ((l1 : Nat) : Int), zi ((f2 : Nat) : Int), zi ((l2 : Nat) : Int)], zAI ct aS 3888 g, zAZ ct aF 2 fz, zAI ct aX 80 (zN tx)] (fun _ : Unit => True) (fun _ => some (zi ((g 1)))) (fun _ => [zO h0 6 [zi 0, .ref aS, zi ((kpS sv : Nat) : Int), .ref aF, .ref aX, zi 0, zi ((ta : Nat) : Int), zi sg, zi ((f1 : Nat) : Int), zi ((l1 : Nat) : Int), zi ((f2 : Nat) : Int), zi ((l2 : Nat) : Int)], zAI ct aS 3888 (mkR (mtR (kpG g sv) cnt (fo2 (mP g id) cnt).toNat) tx 0 ln (cnt - 1)), zAZ ct aF 2 fz, zAI ct aX 80 (zN tx)]) 0 0 := by
  refine zMet_i (cc := cX7_rename) (maxL := 4) (r := fun _ => (g 1)) (by decide) rfl (Nat.le_of_ble_eq_true rfl) ?_
  intro p e s m below meth c A Q Z hnm hR
  refine z_eqs _ [(0, .ref h0), (1, zi id)] _ rfl rfl rfl ?_
  have hn1 := hn.1
  have hn2 := hn.2
  refine z_aload_n Z dX7_rename_0 0 rfl ?_
  refine z_callVu (rest := []) Z dX7_rename_1 6 0 _ _ rfl rfl rfl (zc_X7_isName l D ct (h0) (aS) (aF) (aX) (th) (sg) (sv) (ln) (ta) (f1) (l1) (f2) (l2) (tx) (by first | assumption | omega) (by first | assumption | omega)) (cwV 0 Z.1.2.2.2.2 gX7_rename_X7_isName rfl rfl rfl (by decide +kernel) ⟨Nat.le_of_ble_eq_true rfl, Nat.le_of_ble_eq_true rfl⟩) rfl (Nat.le_of_ble_eq_true rfl) ⟨Nat.le_of_ble_eq_true rfl, Nat.le_of_ble_eq_true rfl⟩ [true, false, false, true] [zO h0 6 [zi th, .ref aS, zi ((sv : Nat) : Int), .ref aF, .ref aX, zi ((ln : Nat) : Int), zi ((ta : Nat) : Int), zi sg, zi ((f1 : Nat) : Int), zi ((l1 : Nat) : Int), zi ((f2 : Nat) : Int), zi ((l2 : Nat) : Int)], zAI ct aS 3888 g, zAZ ct aF 2 fz, zAI ct aX 80 (zN tx)] [zi (zb (decide ((1 ≤ ln ∧ ln ≤ 6) ∧ ∀ r, r < ln → 97 ≤ tx r ∧ tx r ≤ 122)))] rfl rfl rfl rfl ?_
  refine z_istore_n Z dX7_rename_4 [(2, zi (zb (decide ((1 ≤ ln ∧ ln ≤ 6) ∧ ∀ r, r < ln → 97 ≤ tx r ∧ tx r ≤ 122)))), (0, .ref h0), (1, zi id)] (by decide) rfl ?_
  refine z_aload_n Z dX7_rename_5 1 rfl ?_
  refine z_aload_n Z dX7_rename_6 1 rfl ?_
  refine z_iload_n Z dX7_rename_7 2 rfl ?_
  refine z_callVu (rest := [.ref h0]) Z dX7_rename_8 6 0 _ _ rfl rfl rfl (zc_X7_placeOf l D ct (h0) (aS) (aF) (aX) (th) (sg) (sv) (ln) (ta) (f1) (l1) (f2) (l2) (g) (cnt) (id) (by first | assumption | omega) (by first | assumption | omega) (by first | assumption | omega) (by first | assumption | omega)) (cwV 1 Z.1.2.2.2.2 gX7_rename_X7_placeOf rfl rfl rfl (by decide +kernel) ⟨Nat.le_of_ble_eq_true rfl, Nat.le_of_ble_eq_true rfl⟩) rfl (Nat.le_of_ble_eq_true rfl) ⟨Nat.le_of_ble_eq_true rfl, Nat.le_of_ble_eq_true rfl⟩ [true, true, false, false] [zO h0 6 [zi th, .ref aS, zi ((sv : Nat) : Int), .ref aF, .ref aX, zi ((ln : Nat) : Int), zi ((ta : Nat) : Int), zi sg, zi ((f1 : Nat) : Int), zi ((l1 : Nat) : Int), zi ((f2 : Nat) : Int), zi ((l2 : Nat) : Int)], zAI ct aS 3888 g, zAZ ct aF 2 fz, zAI ct aX 80 (zN tx)] [zi (fo2 (mP g id) cnt), .ref h0] rfl rfl rfl rfl ?_
  have hf9 := fo2_rg (mP g id) cnt
  have hf8 := fo2_ge (mP g id) cnt
  refine z_bipush (v := -2) Z dX7_rename_11 (by decide +kernel) ?_
  refine z_icmp_ne Z 20 dX7_rename_13 (by decide) (by omega) (by omega) (fun h13 => ?_) (fun h13 => ?_)
  · refine z_iload_n Z dX7_rename_20 0 rfl ?_
    refine z_ifb_ne Z 28 dX7_rename_21 (by decide) (fun h21 => ?_) (fun h21 => ?_)
    · have h21 := of_decide_eq_true h21
      refine z_aload_n Z dX7_rename_28 1 rfl ?_
      refine z_iconst (v := 0) Z dX7_rename_29 rfl ?_
      refine z_aload_n Z dX7_rename_30 1 rfl ?_
      refine z_get Z dX7_rename_31 zin_X7_rename_X7 0 5 rfl rfl (by decide) zlk_X7_rename_65 rfl ?_
      refine z_callVu (rest := [.ref h0]) Z dX7_rename_34 6 0 _ _ rfl rfl rfl (zc_X7_canMake l D ct (h0) (aS) (aF) (aX) (th) (sg) (sv) (ln) (ta) (f1) (l1) (f2) (l2) (g) (tx) (cnt) (0) (ln) (by first | assumption | omega) (by first | assumption | omega) (by first | assumption | omega) (by first | assumption | omega) (by first | assumption | omega) (by first | assumption | omega)) (cwV 2 Z.1.2.2.2.2 gX7_rename_X7_canMake rfl rfl rfl (by decide +kernel) ⟨Nat.le_of_ble_eq_true rfl, Nat.le_of_ble_eq_true rfl⟩) rfl (Nat.le_of_ble_eq_true rfl) ⟨Nat.le_of_ble_eq_true rfl, Nat.le_of_ble_eq_true rfl⟩ [true, true, false, true] [zO h0 6 [zi th, .ref aS, zi ((sv : Nat) : Int), .ref aF, .ref aX, zi ((ln : Nat) : Int), zi ((ta : Nat) : Int), zi sg, zi ((f1 : Nat) : Int), zi ((l1 : Nat) : Int), zi ((f2 : Nat) : Int), zi ((l2 : Nat) : Int)], zAI ct aS 3888 g, zAZ ct aF 2 fz, zAI ct aX 80 (zN tx)] [zi (zb (decide (fo2 (mN g tx 0 ln) cnt = -2 ∧ g 1 < 1000))), .ref h0] rfl rfl rfl rfl ?_
      refine z_ifb_ne Z 44 dX7_rename_37 (by decide) (fun h37 => ?_) (fun h37 => ?_)
      · have h37 := of_decide_eq_true h37
        refine z_iconst (v := 0) Z dX7_rename_44 rfl ?_
        refine z_callVu (rest := []) Z dX7_rename_45 6 0 _ _ rfl rfl rfl (zc_X7_holds l D ct (h0) (aS) (aF) (aX) (th) (sg) (sv) (ln) (ta) (f1) (l1) (f2) (l2) (0) (by first | assumption | omega)) (cwV 1 Z.1.2.2.2.2 gX7_rename_X7_holds rfl rfl rfl (by decide +kernel) ⟨Nat.le_of_ble_eq_true rfl, Nat.le_of_ble_eq_true rfl⟩) rfl (Nat.le_of_ble_eq_true rfl) ⟨Nat.le_of_ble_eq_true rfl, Nat.le_of_ble_eq_true rfl⟩ [true, false, false, false] [zO h0 6 [zi 0, .ref aS, zi ((sv : Nat) : Int), .ref aF, .ref aX, zi ((ln : Nat) : Int), zi ((ta : Nat) : Int), zi sg, zi ((f1 : Nat) : Int), zi ((l1 : Nat) : Int), zi ((f2 : Nat) : Int), zi ((l2 : Nat) : Int)], zAI ct aS 3888 g, zAZ ct aF 2 fz, zAI ct aX 80 (zN tx)] [zi (zb (decide (0 = 0)))] rfl rfl rfl rfl ?_
        refine z_ifb_ne Z 53 dX7_rename_48 (by decide) (fun h48 => ?_) (fun h48 => ?_)
        · have h48 := of_decide_eq_true h48
          refine z_aload_n Z dX7_rename_53 1 rfl ?_
          refine z_callVu (rest := []) Z dX7_rename_54 6 0 _ _ rfl rfl rfl (zc_X7_keeps l D ct (h0) (aS) (aF) (aX) (0) (sg) (sv) (ln) (ta) (f1) (l1) (f2) (l2) (g) (by first | assumption | omega)) (cwV 0 Z.1.2.2.2.2 gX7_rename_X7_keeps rfl rfl rfl (by decide +kernel) ⟨Nat.le_of_ble_eq_true rfl, Nat.le_of_ble_eq_true rfl⟩) rfl (Nat.le_of_ble_eq_true rfl) ⟨Nat.le_of_ble_eq_true rfl, Nat.le_of_ble_eq_true rfl⟩ [true, true, false, false] [zO h0 6 [zi 0, .ref aS, zi ((kpS sv : Nat) : Int), .ref aF, .ref aX, zi ((ln : Nat) : Int), zi ((ta : Nat) : Int), zi sg, zi ((f1 : Nat) : Int), zi ((l1 : Nat) : Int), zi ((f2 : Nat) : Int), zi ((l2 : Nat) : Int)], zAI ct aS 3888 (kpG g sv), zAZ ct aF 2 fz, zAI ct aX 80 (zN tx)] [] rfl rfl rfl rfl ?_
          refine z_aload_n Z dX7_rename_57 1 rfl ?_
          refine z_aload_n Z dX7_rename_58 1 rfl ?_
          refine z_iload_n Z dX7_rename_59 2 rfl ?_
          refine z_callVu (rest := [.ref h0]) Z dX7_rename_60 6 0 _ _ rfl rfl rfl (zc_X7_placeOf l D ct (h0) (aS) (aF) (aX) (0) (sg) (kpS sv) (ln) (ta) (f1) (l1) (f2) (l2) (kpG g sv) (cnt) (id) (kp_cn hsv hcn) (by first | assumption | omega) (kp_rg hsv hg) (by first | assumption | omega)) (cwV 1 Z.1.2.2.2.2 gX7_rename_X7_placeOf rfl rfl rfl (by decide +kernel) ⟨Nat.le_of_ble_eq_true rfl, Nat.le_of_ble_eq_true rfl⟩) rfl (Nat.le_of_ble_eq_true rfl) ⟨Nat.le_of_ble_eq_true rfl, Nat.le_of_ble_eq_true rfl⟩ [true, true, false, false] [zO h0 6 [zi 0, .ref aS, zi (((kpS sv) : Nat) : Int), .ref aF, .ref aX, zi ((ln : Nat) : Int), zi ((ta : Nat) : Int), zi sg, zi ((f1 : Nat) : Int), zi ((l1 : Nat) : Int), zi ((f2 : Nat) : Int), zi ((l2 : Nat) : Int)], zAI ct aS 3888 (kpG g sv), zAZ ct aF 2 fz, zAI ct aX 80 (zN tx)] [zi (fo2 (mP (kpG g sv) id) cnt), .ref h0] rfl rfl rfl rfl ?_
          refine z_top (y := (((fo2 (mP g id) cnt).toNat : Nat) : Int)) (by rw [fo2_kp hsv hc]; omega) ?_
          refine z_eqs [zO h0 6 [zi 0, .ref aS, zi ((kpS sv : Nat) : Int), .ref aF, .ref aX, zi ((ln : Nat) : Int), zi ((ta : Nat) : Int), zi sg, zi ((f1 : Nat) : Int), zi ((l1 : Nat) : Int), zi ((f2 : Nat) : Int), zi ((l2 : Nat) : Int)], zAI ct aS 3888 (kpG g sv), zAZ ct aF 2 fz, zAI ct aX 80 (zN tx)] _ [zi (((fo2 (mP g id) cnt).toNat : Nat) : Int), .ref h0] (by rw [show (((kpS sv) : Nat) : Int) = ((kpS sv : Nat) : Int) from by omega]) rfl (rfl) ?_
          refine z_callVu (rest := []) Z dX7_rename_63 6 0 _ _ rfl rfl rfl (zc_X7_takesOut l D ct (h0) (aS) (aF) (aX) (0) (sg) (kpS sv) (ln) (ta) (f1) (l1) (f2) (l2) ((kpG g sv)) (cnt) ((fo2 (mP g id) cnt).toNat) (kp_cn hsv hcn) (by first | assumption | omega) (kp_rg hsv hg) (kp_hs hsv hhs) (by rw [kpG_lo g hsv (by omega)]; omega) (by rw [kpG_lo g hsv (by omega)]; omega) (by omega)) (cwV 1 Z.1.2.2.2.2 gX7_rename_X7_takesOut rfl rfl rfl (by decide +kernel) ⟨Nat.le_of_ble_eq_true rfl, Nat.le_of_ble_eq_true rfl⟩) rfl (Nat.le_of_ble_eq_true rfl) ⟨Nat.le_of_ble_eq_true rfl, Nat.le_of_ble_eq_true rfl⟩ [true, true, false, false] [zO h0 6 [zi 0, .ref aS, zi (((kpS sv) : Nat) : Int), .ref aF, .ref aX, zi ((ln : Nat) : Int), zi ((ta : Nat) : Int), zi sg, zi ((f1 : Nat) : Int), zi ((l1 : Nat) : Int), zi ((f2 : Nat) : Int), zi ((l2 : Nat) : Int)], zAI ct aS 3888 (mtR (kpG g sv) cnt ((fo2 (mP g id) cnt).toNat)), zAZ ct aF 2 fz, zAI ct aX 80 (zN tx)] [] rfl rfl rfl rfl ?_
          refine z_aload_n Z dX7_rename_66 1 rfl ?_
          refine z_iconst (v := 0) Z dX7_rename_67 rfl ?_
          refine z_aload_n Z dX7_rename_68 1 rfl ?_
          refine z_get Z dX7_rename_69 zin_X7_rename_X7 0 5 rfl rfl (by decide) zlk_X7_rename_65 rfl ?_
          refine z_eqs [zO h0 6 [zi 0, .ref aS, zi ((kpS sv : Nat) : Int), .ref aF, .ref aX, zi ((ln : Nat) : Int), zi ((ta : Nat) : Int), zi sg, zi ((f1 : Nat) : Int), zi ((l1 : Nat) : Int), zi ((f2 : Nat) : Int), zi ((l2 : Nat) : Int)], zAI ct aS 3888 (mtR (kpG g sv) cnt ((fo2 (mP g id) cnt).toNat)), zAZ ct aF 2 fz, zAI ct aX 80 (zN tx)] _ [zi ((ln : Nat) : Int), zi 0, .ref h0] (by rw [show (((kpS sv) : Nat) : Int) = ((kpS sv : Nat) : Int) from by omega]) rfl (rfl) ?_
          refine z_callVu (rest := []) Z dX7_rename_72 6 0 _ _ rfl rfl rfl (zc_X7_makes l D ct (h0) (aS) (aF) (aX) (0) (sg) (kpS sv) (ln) (ta) (f1) (l1) (f2) (l2) (mtR (kpG g sv) cnt ((fo2 (mP g id) cnt).toNat)) (tx) (cnt - 1) (0) (ln) (mtR_0 _ _ _ (kp_h hsv hhs (by omega))) (by omega) (mtR_rg (kp_rg hsv hg) hc (kp_h3 hsv h3) (kp_h hsv hhs (by omega))) (mtR_hs (kp_hs hsv hhs) hc (kp_h hsv hhs (by omega))) (by first | assumption | omega) (by first | assumption | omega) (by first | assumption | omega) (fun j hj => by rw [Nat.zero_add]; exact hn.2 j hj) (by rw [mtR_1 _ _ _ (kp_h hsv hhs (by omega)), kpG_lo g hsv (by omega)]; omega) (by rw [mtR_2 _ _ _ (kp_h hsv hhs (by omega)), kpG_lo g hsv (by omega)]; omega) (mtR_3 _ _ _ hc (kp_h3 hsv h3) (kp_h hsv hhs (by omega)))) (cwV 2 Z.1.2.2.2.2 gX7_rename_X7_makes rfl rfl rfl (by decide +kernel) ⟨Nat.le_of_ble_eq_true rfl, Nat.le_of_ble_eq_true rfl⟩) rfl (Nat.le_of_ble_eq_true rfl) ⟨Nat.le_of_ble_eq_true rfl, Nat.le_of_ble_eq_true rfl⟩ [true, true, false, true] [zO h0 6 [zi 0, .ref aS, zi (((kpS sv) : Nat) : Int), .ref aF, .ref aX, zi ((ln : Nat) : Int), zi ((ta : Nat) : Int), zi sg, zi ((f1 : Nat) : Int), zi ((l1 : Nat) : Int), zi ((f2 : Nat) : Int), zi ((l2 : Nat) : Int)], zAI ct aS 3888 (mkR (mtR (kpG g sv) cnt ((fo2 (mP g id) cnt).toNat)) tx 0 ln (cnt - 1)), zAZ ct aF 2 fz, zAI ct aX 80 (zN tx)] [zi ((mtR (kpG g sv) cnt ((fo2 (mP g id) cnt).toNat)) 1)] rfl rfl rfl rfl ?_
          refine z_top (y := (g 1)) (by rw [mtR_1 _ _ _ (kp_h hsv hhs (by omega)), kpG_lo g hsv (by omega)]) ?_
          refine z_istore_n Z dX7_rename_75 [(3, zi (g 1)), (2, zi (zb (decide ((1 ≤ ln ∧ ln ≤ 6) ∧ ∀ r, r < ln → 97 ≤ tx r ∧ tx r ≤ 122)))), (0, .ref h0), (1, zi id)] (by decide) rfl ?_
          refine z_aload_n Z dX7_rename_76 2 rfl ?_
          refine z_iconst (v := 0) Z dX7_rename_77 rfl ?_
          refine z_put (ty := .int) Z dX7_rename_78 zin_X7_rename_X7 tyX7 tyX7_ok nmX7 0 5 [zO h0 6 [zi 0, .ref aS, zi (((kpS sv) : Nat) : Int), .ref aF, .ref aX, zi 0, zi ((ta : Nat) : Int), zi sg, zi ((f1 : Nat) : Int), zi ((l1 : Nat) : Int), zi ((f2 : Nat) : Int), zi ((l2 : Nat) : Int)], zAI ct aS 3888 (mkR (mtR (kpG g sv) cnt ((fo2 (mP g id) cnt).toNat)) tx 0 ln (cnt - 1)), zAZ ct aF 2 fz, zAI ct aX 80 (zN tx)] rfl rfl (by decide) zlk_X7_rename_65 rfl (by decide +kernel) rfl rfl (Nat.le_of_ble_eq_true rfl) rfl ?_
          refine z_iload_n Z dX7_rename_81 0 rfl ?_
          refine z_eqs [zO h0 6 [zi 0, .ref aS, zi ((kpS sv : Nat) : Int), .ref aF, .ref aX, zi 0, zi ((ta : Nat) : Int), zi sg, zi ((f1 : Nat) : Int), zi ((l1 : Nat) : Int), zi ((f2 : Nat) : Int), zi ((l2 : Nat) : Int)], zAI ct aS 3888 (mkR (mtR (kpG g sv) cnt (fo2 (mP g id) cnt).toNat) tx 0 ln (cnt - 1)), zAZ ct aF 2 fz, zAI ct aX 80 (zN tx)] _ [zi (g 1)] (rfl) rfl (rfl) ?_
          exact hR _ _ () trivial dX7_rename_82
        · have h48 := of_decide_eq_false h48
          exfalso; first | contradiction | omega
      · have h37 := of_decide_eq_false h37
        exfalso; first | contradiction | omega
    · have h21 := of_decide_eq_false h21
      exfalso; first | contradiction | omega
  · exfalso; first | contradiction | omega
set_option maxHeartbeats 4000000 in
set_option maxRecDepth 100000 in
theorem zc_X7_open_1 (l : Launch) (D : va_G) (ct : zCT) (h0 : Nat) (aS : Nat) (aF : Nat) (aX : Nat) (th : Int) (sg : Int) (sv : Nat) (ln : Nat) (ta : Nat) (f1 : Nat) (l1 : Nat) (f2 : Nat) (l2 : Nat) (g : Nat → Int) (fz : Nat → Int) (tx : Nat → Nat) (cnt : Nat) (r : Int) (hcn : g 0 = ((cnt : Nat) : Int)) (hc : cnt ≤ 40) (hg : ∀ k, k < 432 → -2 ≤ g k ∧ g k < 70000) (hhs : ∀ k, k < 40 → 0 ≤ mI g k 1 ∧ mI g k 1 < 64) (ht : ∀ j, j < 80 → tx j < 128) (hln : ln ≤ 80) (hsv : sv ≤ 6) (h2 : 0 ≤ g 2 ∧ g 2 < 50000) (h3 : 0 ≤ g 3 ∧ g 3 < 50000) (h1 : 0 ≤ g 1 ∧ g 1 < 2000) (hr : -2147483648 ≤ r ∧ r < 2147483648) (hrr : ¬ (0 ≤ r ∧ r ≤ 3)) : zMet l yX7_open wsX7_open ({ frames := 2, cells := 0, slots := 0, locals := 42 } : Room) D ct [.ref h0, zi r] [zO h0 6 [zi th, .ref aS, zi ((sv : Nat) : Int), .ref aF, .ref aX, zi ((ln : Nat) : Int), zi ((ta : Nat) : Int), zi sg, zi ((f1 : Nat) : Int), zi ((l1 : Nat) : Int), zi ((f2 : Nat) : Int), zi ((l2 : Nat) : Int)], zAI ct aS 3888 g, zAZ ct aF 2 fz, zAI ct aX 80 (zN tx)] (fun _ : Unit => True) (fun _ => some (zi (0))) (fun _ => [zO h0 6 [zi 1, .ref aS, zi ((sv : Nat) : Int), .ref aF, .ref aX, zi ((ln : Nat) : Int), zi ((ta : Nat) : Int), zi sg, zi ((f1 : Nat) : Int), zi ((l1 : Nat) : Int), zi ((f2 : Nat) : Int), zi ((l2 : Nat) : Int)], zAI ct aS 3888 g, zAZ ct aF 2 fz, zAI ct aX 80 (zN tx)]) 0 0 := by
  refine zMet_i (cc := cX7_open) (maxL := 4) (r := fun _ => 0) (by decide) rfl (Nat.le_of_ble_eq_true rfl) ?_
  intro p e s m below meth c A Q Z hnm hR
  refine z_eqs _ [(0, .ref h0), (1, zi r)] _ rfl rfl rfl ?_
  refine z_aload_n Z dX7_open_0 0 rfl ?_
  refine z_iload_n Z dX7_open_1 1 rfl ?_
  refine z_callSu (rest := [.ref h0]) Z dX7_open_2 (zc_X7_isReader l D ct (r) (by first | assumption | omega)) (va_cwS 1 Z.1.2.2.2.2 gX7_open_X7_isReader rfl rfl rfl (by decide +kernel) ⟨Nat.le_of_ble_eq_true rfl, Nat.le_of_ble_eq_true rfl⟩) rfl (Nat.le_of_ble_eq_true rfl) ⟨Nat.le_of_ble_eq_true rfl, Nat.le_of_ble_eq_true rfl⟩ [false, false, false, false] [zO h0 6 [zi th, .ref aS, zi ((sv : Nat) : Int), .ref aF, .ref aX, zi ((ln : Nat) : Int), zi ((ta : Nat) : Int), zi sg, zi ((f1 : Nat) : Int), zi ((l1 : Nat) : Int), zi ((f2 : Nat) : Int), zi ((l2 : Nat) : Int)], zAI ct aS 3888 g, zAZ ct aF 2 fz, zAI ct aX 80 (zN tx)] [zi (zb (decide (0 ≤ r ∧ r ≤ 3))), .ref h0] rfl rfl rfl rfl ?_
  refine z_ifb_eq Z 12 dX7_open_5 (by decide) (fun h5 => ?_) (fun h5 => ?_)
  · have h5 := of_decide_eq_false h5
    refine z_iconst (v := 1) Z dX7_open_12 rfl ?_
    refine z_callVu (rest := []) Z dX7_open_13 6 0 _ _ rfl rfl rfl (zc_X7_holds l D ct (h0) (aS) (aF) (aX) (th) (sg) (sv) (ln) (ta) (f1) (l1) (f2) (l2) (1) (by first | assumption | omega)) (cwV 1 Z.1.2.2.2.2 gX7_open_X7_holds rfl rfl rfl (by decide +kernel) ⟨Nat.le_of_ble_eq_true rfl, Nat.le_of_ble_eq_true rfl⟩) rfl (Nat.le_of_ble_eq_true rfl) ⟨Nat.le_of_ble_eq_true rfl, Nat.le_of_ble_eq_true rfl⟩ [true, false, false, false] [zO h0 6 [zi 1, .ref aS, zi ((sv : Nat) : Int), .ref aF, .ref aX, zi ((ln : Nat) : Int), zi ((ta : Nat) : Int), zi sg, zi ((f1 : Nat) : Int), zi ((l1 : Nat) : Int), zi ((f2 : Nat) : Int), zi ((l2 : Nat) : Int)], zAI ct aS 3888 g, zAZ ct aF 2 fz, zAI ct aX 80 (zN tx)] [zi (zb (decide (1 = 0)))] rfl rfl rfl rfl ?_
    refine z_ifb_ne Z 21 dX7_open_16 (by decide) (fun h16 => ?_) (fun h16 => ?_)
    · have h16 := of_decide_eq_true h16
      exfalso; first | contradiction | omega
    · have h16 := of_decide_eq_false h16
      refine z_iconst (v := 0) Z dX7_open_19 rfl ?_
      refine z_eqs [zO h0 6 [zi 1, .ref aS, zi ((sv : Nat) : Int), .ref aF, .ref aX, zi ((ln : Nat) : Int), zi ((ta : Nat) : Int), zi sg, zi ((f1 : Nat) : Int), zi ((l1 : Nat) : Int), zi ((f2 : Nat) : Int), zi ((l2 : Nat) : Int)], zAI ct aS 3888 g, zAZ ct aF 2 fz, zAI ct aX 80 (zN tx)] _ [zi 0] (rfl) rfl (rfl) ?_
      exact hR _ _ () trivial dX7_open_20
  · have h5 := of_decide_eq_true h5
    exfalso; first | contradiction | omega
theorem zin_X7_open_X7 : ∀ w ∈ wsX70, w ∈ wsX7_open := by decide +kernel
theorem zlk_X7_open_7 : Cond.fieldLink RX7 7 "HashedDirectoryModel" "s" "[I" ∈ wsX7_open := by decide +kernel
set_option maxHeartbeats 4000000 in
set_option maxRecDepth 100000 in
theorem zc_X7_open_0 (l : Launch) (D : va_G) (ct : zCT) (h0 : Nat) (aS : Nat) (aF : Nat) (aX : Nat) (th : Int) (sg : Int) (sv : Nat) (ln : Nat) (ta : Nat) (f1 : Nat) (l1 : Nat) (f2 : Nat) (l2 : Nat) (g : Nat → Int) (fz : Nat → Int) (tx : Nat → Nat) (cnt : Nat) (r : Nat) (hcn : g 0 = ((cnt : Nat) : Int)) (hc : cnt ≤ 40) (hg : ∀ k, k < 432 → -2 ≤ g k ∧ g k < 70000) (hhs : ∀ k, k < 40 → 0 ≤ mI g k 1 ∧ mI g k 1 < 64) (ht : ∀ j, j < 80 → tx j < 128) (hln : ln ≤ 80) (hsv : sv ≤ 6) (h2 : 0 ≤ g 2 ∧ g 2 < 50000) (h3 : 0 ≤ g 3 ∧ g 3 < 50000) (h1 : 0 ≤ g 1 ∧ g 1 < 2000) (hr : r < 4) : zMet l yX7_open wsX7_open ({ frames := 3, cells := 0, slots := 0, locals := 63 } : Room) D ct [.ref h0, zi ((r : Nat) : Int)] [zO h0 6 [zi th, .ref aS, zi ((sv : Nat) : Int), .ref aF, .ref aX, zi ((ln : Nat) : Int), zi ((ta : Nat) : Int), zi sg, zi ((f1 : Nat) : Int), zi ((l1 : Nat) : Int), zi ((f2 : Nat) : Int), zi ((l2 : Nat) : Int)], zAI ct aS 3888 g, zAZ ct aF 2 fz, zAI ct aX 80 (zN tx)] (fun _ : Unit => True) (fun _ => some (zi (((orF (fun j => zU (kpG g sv) (4 + r) (-1) (4 + j)) 4 : Nat) : Int)))) (fun _ => [zO h0 6 [zi 0, .ref aS, zi ((kpS sv : Nat) : Int), .ref aF, .ref aX, zi ((ln : Nat) : Int), zi ((ta : Nat) : Int), zi sg, zi ((f1 : Nat) : Int), zi ((l1 : Nat) : Int), zi ((f2 : Nat) : Int), zi ((l2 : Nat) : Int)], zAI ct aS 3888 (zU (kpG g sv) (4 + r) (-1)), zAZ ct aF 2 fz, zAI ct aX 80 (zN tx)]) 0 0 := by
  refine zMet_i (cc := cX7_open) (maxL := 4) (r := fun _ => ((orF (fun j => zU (kpG g sv) (4 + r) (-1) (4 + j)) 4 : Nat) : Int)) (by decide) rfl (Nat.le_of_ble_eq_true rfl) ?_
  intro p e s m below meth c A Q Z hnm hR
  refine z_eqs _ [(0, .ref h0), (1, zi ((r : Nat) : Int))] _ rfl rfl rfl ?_
  refine z_aload_n Z dX7_open_0 0 rfl ?_
  refine z_iload_n Z dX7_open_1 1 rfl ?_
  refine z_callSu (rest := [.ref h0]) Z dX7_open_2 (zc_X7_isReader l D ct (((r : Nat) : Int)) (by first | assumption | omega)) (va_cwS 1 Z.1.2.2.2.2 gX7_open_X7_isReader rfl rfl rfl (by decide +kernel) ⟨Nat.le_of_ble_eq_true rfl, Nat.le_of_ble_eq_true rfl⟩) rfl (Nat.le_of_ble_eq_true rfl) ⟨Nat.le_of_ble_eq_true rfl, Nat.le_of_ble_eq_true rfl⟩ [false, false, false, false] [zO h0 6 [zi th, .ref aS, zi ((sv : Nat) : Int), .ref aF, .ref aX, zi ((ln : Nat) : Int), zi ((ta : Nat) : Int), zi sg, zi ((f1 : Nat) : Int), zi ((l1 : Nat) : Int), zi ((f2 : Nat) : Int), zi ((l2 : Nat) : Int)], zAI ct aS 3888 g, zAZ ct aF 2 fz, zAI ct aX 80 (zN tx)] [zi (zb (decide (0 ≤ ((r : Nat) : Int) ∧ ((r : Nat) : Int) ≤ 3))), .ref h0] rfl rfl rfl rfl ?_
  refine z_ifb_eq Z 12 dX7_open_5 (by decide) (fun h5 => ?_) (fun h5 => ?_)
  · have h5 := of_decide_eq_false h5
    exfalso; first | contradiction | omega
  · have h5 := of_decide_eq_true h5
    refine z_iconst (v := 0) Z dX7_open_8 rfl ?_
    refine z_goto Z 13 dX7_open_9 (by decide) ?_
    refine z_callVu (rest := []) Z dX7_open_13 6 0 _ _ rfl rfl rfl (zc_X7_holds l D ct (h0) (aS) (aF) (aX) (th) (sg) (sv) (ln) (ta) (f1) (l1) (f2) (l2) (0) (by first | assumption | omega)) (cwV 1 Z.1.2.2.2.2 gX7_open_X7_holds rfl rfl rfl (by decide +kernel) ⟨Nat.le_of_ble_eq_true rfl, Nat.le_of_ble_eq_true rfl⟩) rfl (Nat.le_of_ble_eq_true rfl) ⟨Nat.le_of_ble_eq_true rfl, Nat.le_of_ble_eq_true rfl⟩ [true, false, false, false] [zO h0 6 [zi 0, .ref aS, zi ((sv : Nat) : Int), .ref aF, .ref aX, zi ((ln : Nat) : Int), zi ((ta : Nat) : Int), zi sg, zi ((f1 : Nat) : Int), zi ((l1 : Nat) : Int), zi ((f2 : Nat) : Int), zi ((l2 : Nat) : Int)], zAI ct aS 3888 g, zAZ ct aF 2 fz, zAI ct aX 80 (zN tx)] [zi (zb (decide (0 = 0)))] rfl rfl rfl rfl ?_
    refine z_ifb_ne Z 21 dX7_open_16 (by decide) (fun h16 => ?_) (fun h16 => ?_)
    · have h16 := of_decide_eq_true h16
      refine z_aload_n Z dX7_open_21 0 rfl ?_
      refine z_callVu (rest := []) Z dX7_open_22 6 0 _ _ rfl rfl rfl (zc_X7_keeps l D ct (h0) (aS) (aF) (aX) (0) (sg) (sv) (ln) (ta) (f1) (l1) (f2) (l2) (g) (by first | assumption | omega)) (cwV 0 Z.1.2.2.2.2 gX7_open_X7_keeps rfl rfl rfl (by decide +kernel) ⟨Nat.le_of_ble_eq_true rfl, Nat.le_of_ble_eq_true rfl⟩) rfl (Nat.le_of_ble_eq_true rfl) ⟨Nat.le_of_ble_eq_true rfl, Nat.le_of_ble_eq_true rfl⟩ [true, true, false, false] [zO h0 6 [zi 0, .ref aS, zi ((kpS sv : Nat) : Int), .ref aF, .ref aX, zi ((ln : Nat) : Int), zi ((ta : Nat) : Int), zi sg, zi ((f1 : Nat) : Int), zi ((l1 : Nat) : Int), zi ((f2 : Nat) : Int), zi ((l2 : Nat) : Int)], zAI ct aS 3888 (kpG g sv), zAZ ct aF 2 fz, zAI ct aX 80 (zN tx)] [] rfl rfl rfl rfl ?_
      refine z_aload_n Z dX7_open_25 0 rfl ?_
      refine z_get Z dX7_open_26 zin_X7_open_X7 0 1 rfl rfl (by decide) zlk_X7_open_7 rfl ?_
      refine z_iconst (v := 4) Z dX7_open_29 rfl ?_
      refine z_iload_n Z dX7_open_30 1 rfl ?_
      refine z_iadd Z dX7_open_31 ?_
      refine z_top (y := ((4 + r : Nat) : Int)) (by omega) ?_
      refine z_iconst (v := -1) Z dX7_open_32 rfl ?_
      refine z_iast Z dX7_open_33 1 (4 + r) [zO h0 6 [zi 0, .ref aS, zi ((kpS sv : Nat) : Int), .ref aF, .ref aX, zi ((ln : Nat) : Int), zi ((ta : Nat) : Int), zi sg, zi ((f1 : Nat) : Int), zi ((l1 : Nat) : Int), zi ((f2 : Nat) : Int), zi ((l2 : Nat) : Int)], zAI ct aS 3888 (zU (kpG g sv) (4 + r) (-1)), zAZ ct aF 2 fz, zAI ct aX 80 (zN tx)] rfl (rfl) ⟨by omega, by omega⟩ rfl ?_
      refine z_iconst (v := 0) Z dX7_open_34 rfl ?_
      refine z_istore_n Z dX7_open_35 [(2, zi 0), (0, .ref h0), (1, zi ((r : Nat) : Int))] (by decide) rfl ?_
      refine z_iconst (v := 0) Z dX7_open_36 rfl ?_
      refine z_istore_n Z dX7_open_37 [(3, zi 0), (2, zi 0), (0, .ref h0), (1, zi ((r : Nat) : Int))] (by decide) rfl ?_
      refine z_lsub [2, 3, 1, 0] [(0, .ref h0), (1, zi ((r : Nat) : Int)), (2, zi 0), (3, zi 0)] rfl ?_
      have LOOP38 : ∀ (N0 : Nat) (i : Nat) (x2 : Int) (x3 : Int), 5 - i < N0 → x2 = ((orF (fun j => zU (kpG g sv) (4 + r) (-1) (4 + j)) i : Nat) : Int) → x3 = ((i : Nat) : Int) → (i ≤ 4) → zW p l e ({ frames := 3, cells := 0, slots := 0, locals := 63 } : Room) s m ([.ref h0, zi ((r : Nat) : Int)] : List Value).toArray below meth c D A 4 Q 0 0 [zO h0 6 [zi 0, .ref aS, zi ((kpS sv : Nat) : Int), .ref aF, .ref aX, zi ((ln : Nat) : Int), zi ((ta : Nat) : Int), zi sg, zi ((f1 : Nat) : Int), zi ((l1 : Nat) : Int), zi ((f2 : Nat) : Int), zi ((l2 : Nat) : Int)], zAI ct aS 3888 (zU (kpG g sv) (4 + r) (-1)), zAZ ct aF 2 fz, zAI ct aX 80 (zN tx)] [(0, .ref h0), (1, zi ((r : Nat) : Int)), (2, zi x2), (3, zi x3)] 38 [] := by
        intro N0
        induction N0 with
        | zero => intro i x2 x3 hm0; exact absurd hm0 (Nat.not_lt_zero _)
        | succ N0 ih0 =>
          intro i x2 x3 hm0 ex2 ex3 hi
          subst ex2
          subst ex3
          refine z_iload_n Z dX7_open_38 3 rfl ?_
          refine z_iconst (v := 4) Z dX7_open_39 rfl ?_
          refine z_icmp_ge Z 65 dX7_open_40 (by decide) (by omega) (by omega) (fun h40 => ?_) (fun h40 => ?_)
          · refine z_iload_n Z dX7_open_65 2 rfl ?_
            refine z_eqs [zO h0 6 [zi 0, .ref aS, zi ((kpS sv : Nat) : Int), .ref aF, .ref aX, zi ((ln : Nat) : Int), zi ((ta : Nat) : Int), zi sg, zi ((f1 : Nat) : Int), zi ((l1 : Nat) : Int), zi ((f2 : Nat) : Int), zi ((l2 : Nat) : Int)], zAI ct aS 3888 (zU (kpG g sv) (4 + r) (-1)), zAZ ct aF 2 fz, zAI ct aX 80 (zN tx)] _ [zi ((orF (fun j => zU (kpG g sv) (4 + r) (-1) (4 + j)) 4 : Nat) : Int)] (rfl) rfl (congrArg (fun z => [zi z]) (by rw [show i = 4 from by omega])) ?_
            exact hR _ _ () trivial dX7_open_66
          · refine z_iload_n Z dX7_open_43 2 rfl ?_
            refine z_aload_n Z dX7_open_44 0 rfl ?_
            refine z_iload_n Z dX7_open_45 3 rfl ?_
            refine z_callVu (rest := [zi ((orF (fun j => zU (kpG g sv) (4 + r) (-1) (4 + j)) i : Nat) : Int)]) Z dX7_open_46 6 0 _ _ rfl rfl rfl (zc_X7_isOpen l D ct (h0) (aS) (aF) (aX) (0) (sg) (kpS sv) (ln) (ta) (f1) (l1) (f2) (l2) (zU (kpG g sv) (4 + r) (-1)) (((i : Nat) : Int)) (zU_rg (kp_rg hsv hg) (by omega)) (by first | assumption | omega)) (cwV 1 Z.1.2.2.2.2 gX7_open_X7_isOpen rfl rfl rfl (by decide +kernel) ⟨Nat.le_of_ble_eq_true rfl, Nat.le_of_ble_eq_true rfl⟩) rfl (Nat.le_of_ble_eq_true rfl) ⟨Nat.le_of_ble_eq_true rfl, Nat.le_of_ble_eq_true rfl⟩ [true, true, false, false] [zO h0 6 [zi 0, .ref aS, zi (((kpS sv) : Nat) : Int), .ref aF, .ref aX, zi ((ln : Nat) : Int), zi ((ta : Nat) : Int), zi sg, zi ((f1 : Nat) : Int), zi ((l1 : Nat) : Int), zi ((f2 : Nat) : Int), zi ((l2 : Nat) : Int)], zAI ct aS 3888 (zU (kpG g sv) (4 + r) (-1)), zAZ ct aF 2 fz, zAI ct aX 80 (zN tx)] [zi (zb (decide ((0 ≤ ((i : Nat) : Int) ∧ ((i : Nat) : Int) ≤ 3) ∧ (zU (kpG g sv) (4 + r) (-1)) (4 + ((i : Nat) : Int).toNat) ≠ -2))), zi ((orF (fun j => zU (kpG g sv) (4 + r) (-1) (4 + j)) i : Nat) : Int)] rfl rfl rfl rfl ?_
            refine z_ifb_eq Z 56 dX7_open_49 (by decide) (fun h49 => ?_) (fun h49 => ?_)
            · have h49 := of_decide_eq_false h49
              refine z_iconst (v := 0) Z dX7_open_56 rfl ?_
              refine z_iadd Z dX7_open_57 ?_
              refine z_top (y := (((orF (fun j => zU (kpG g sv) (4 + r) (-1) (4 + j)) i) + 0 : Nat) : Int)) (by omega) ?_
              refine z_istore_n Z dX7_open_58 [(2, zi (((orF (fun j => zU (kpG g sv) (4 + r) (-1) (4 + j)) i) + 0 : Nat) : Int)), (0, .ref h0), (1, zi ((r : Nat) : Int)), (3, zi ((i : Nat) : Int))] (by decide) rfl ?_
              refine z_iinc (v := ((i + 1 : Nat) : Int)) Z dX7_open_59 3 [(3, zi ((i + 1 : Nat) : Int)), (2, zi (((orF (fun j => zU (kpG g sv) (4 + r) (-1) (4 + j)) i) + 0 : Nat) : Int)), (0, .ref h0), (1, zi ((r : Nat) : Int))] rfl (by omega) (by decide) rfl ?_
              refine z_goto Z 38 dX7_open_62 (by decide) ?_
              refine z_lsub [2, 3, 1, 0] [(0, .ref h0), (1, zi ((r : Nat) : Int)), (2, zi (((orF (fun j => zU (kpG g sv) (4 + r) (-1) (4 + j)) i) + 0 : Nat) : Int)), (3, zi ((i + 1 : Nat) : Int))] rfl ?_
              exact ih0 (i + 1) _ _ (by omega) (by rw [Int.toNat_natCast] at h49; show _ = ((orF (fun j => zU (kpG g sv) (4 + r) (-1) (4 + j)) i + (if zU (kpG g sv) (4 + r) (-1) (4 + i) ≠ -2 then 1 else 0) : Nat) : Int); split <;> omega) (by first | rfl | omega)  (by first | assumption | omega)
            · have h49 := of_decide_eq_true h49
              refine z_iconst (v := 1) Z dX7_open_52 rfl ?_
              refine z_goto Z 57 dX7_open_53 (by decide) ?_
              refine z_iadd Z dX7_open_57 ?_
              refine z_top (y := (((orF (fun j => zU (kpG g sv) (4 + r) (-1) (4 + j)) i) + 1 : Nat) : Int)) (by omega) ?_
              refine z_istore_n Z dX7_open_58 [(2, zi (((orF (fun j => zU (kpG g sv) (4 + r) (-1) (4 + j)) i) + 1 : Nat) : Int)), (0, .ref h0), (1, zi ((r : Nat) : Int)), (3, zi ((i : Nat) : Int))] (by decide) rfl ?_
              refine z_iinc (v := ((i + 1 : Nat) : Int)) Z dX7_open_59 3 [(3, zi ((i + 1 : Nat) : Int)), (2, zi (((orF (fun j => zU (kpG g sv) (4 + r) (-1) (4 + j)) i) + 1 : Nat) : Int)), (0, .ref h0), (1, zi ((r : Nat) : Int))] rfl (by omega) (by decide) rfl ?_
              refine z_goto Z 38 dX7_open_62 (by decide) ?_
              refine z_lsub [2, 3, 1, 0] [(0, .ref h0), (1, zi ((r : Nat) : Int)), (2, zi (((orF (fun j => zU (kpG g sv) (4 + r) (-1) (4 + j)) i) + 1 : Nat) : Int)), (3, zi ((i + 1 : Nat) : Int))] rfl ?_
              exact ih0 (i + 1) _ _ (by omega) (by rw [Int.toNat_natCast] at h49; show _ = ((orF (fun j => zU (kpG g sv) (4 + r) (-1) (4 + j)) i + (if zU (kpG g sv) (4 + r) (-1) (4 + i) ≠ -2 then 1 else 0) : Nat) : Int); split <;> omega) (by first | rfl | omega)  (by first | assumption | omega)
      exact LOOP38 (5 - 0 + 1) 0 _ _ (Nat.lt_succ_self _) (rfl) (by first | rfl | omega)  (by first | assumption | omega)
    · have h16 := of_decide_eq_false h16
      exfalso; first | contradiction | omega
set_option maxHeartbeats 4000000 in
set_option maxRecDepth 100000 in
theorem zc_X7_close_1 (l : Launch) (D : va_G) (ct : zCT) (h0 : Nat) (aS : Nat) (aF : Nat) (aX : Nat) (th : Int) (sg : Int) (sv : Nat) (ln : Nat) (ta : Nat) (f1 : Nat) (l1 : Nat) (f2 : Nat) (l2 : Nat) (g : Nat → Int) (fz : Nat → Int) (tx : Nat → Nat) (cnt : Nat) (r : Int) (hcn : g 0 = ((cnt : Nat) : Int)) (hc : cnt ≤ 40) (hg : ∀ k, k < 432 → -2 ≤ g k ∧ g k < 70000) (hhs : ∀ k, k < 40 → 0 ≤ mI g k 1 ∧ mI g k 1 < 64) (ht : ∀ j, j < 80 → tx j < 128) (hln : ln ≤ 80) (hsv : sv ≤ 6) (h2 : 0 ≤ g 2 ∧ g 2 < 50000) (h3 : 0 ≤ g 3 ∧ g 3 < 50000) (h1 : 0 ≤ g 1 ∧ g 1 < 2000) (hr : -2147483648 ≤ r ∧ r < 2147483648) (hrr : ¬ (0 ≤ r ∧ r ≤ 3)) : zMet l yX7_close wsX7_close ({ frames := 2, cells := 0, slots := 0, locals := 42 } : Room) D ct [.ref h0, zi r] [zO h0 6 [zi th, .ref aS, zi ((sv : Nat) : Int), .ref aF, .ref aX, zi ((ln : Nat) : Int), zi ((ta : Nat) : Int), zi sg, zi ((f1 : Nat) : Int), zi ((l1 : Nat) : Int), zi ((f2 : Nat) : Int), zi ((l2 : Nat) : Int)], zAI ct aS 3888 g, zAZ ct aF 2 fz, zAI ct aX 80 (zN tx)] (fun _ : Unit => True) (fun _ => some (zi (0))) (fun _ => [zO h0 6 [zi 1, .ref aS, zi ((sv : Nat) : Int), .ref aF, .ref aX, zi ((ln : Nat) : Int), zi ((ta : Nat) : Int), zi sg, zi ((f1 : Nat) : Int), zi ((l1 : Nat) : Int), zi ((f2 : Nat) : Int), zi ((l2 : Nat) : Int)], zAI ct aS 3888 g, zAZ ct aF 2 fz, zAI ct aX 80 (zN tx)]) 0 0 := by
  refine zMet_i (cc := cX7_close) (maxL := 2) (r := fun _ => 0) (by decide) rfl (Nat.le_of_ble_eq_true rfl) ?_
  intro p e s m below meth c A Q Z hnm hR
  refine z_eqs _ [(0, .ref h0), (1, zi r)] _ rfl rfl rfl ?_
  refine z_aload_n Z dX7_close_0 0 rfl ?_
  refine z_iload_n Z dX7_close_1 1 rfl ?_
  refine z_callSu (rest := [.ref h0]) Z dX7_close_2 (zc_X7_isReader l D ct (r) (by first | assumption | omega)) (va_cwS 1 Z.1.2.2.2.2 gX7_close_X7_isReader rfl rfl rfl (by decide +kernel) ⟨Nat.le_of_ble_eq_true rfl, Nat.le_of_ble_eq_true rfl⟩) rfl (Nat.le_of_ble_eq_true rfl) ⟨Nat.le_of_ble_eq_true rfl, Nat.le_of_ble_eq_true rfl⟩ [false, false, false, false] [zO h0 6 [zi th, .ref aS, zi ((sv : Nat) : Int), .ref aF, .ref aX, zi ((ln : Nat) : Int), zi ((ta : Nat) : Int), zi sg, zi ((f1 : Nat) : Int), zi ((l1 : Nat) : Int), zi ((f2 : Nat) : Int), zi ((l2 : Nat) : Int)], zAI ct aS 3888 g, zAZ ct aF 2 fz, zAI ct aX 80 (zN tx)] [zi (zb (decide (0 ≤ r ∧ r ≤ 3))), .ref h0] rfl rfl rfl rfl ?_
  refine z_ifb_ne Z 12 dX7_close_5 (by decide) (fun h5 => ?_) (fun h5 => ?_)
  · have h5 := of_decide_eq_true h5
    exfalso; first | contradiction | omega
  · have h5 := of_decide_eq_false h5
    refine z_iconst (v := 1) Z dX7_close_8 rfl ?_
    refine z_goto Z 25 dX7_close_9 (by decide) ?_
    refine z_callVu (rest := []) Z dX7_close_25 6 0 _ _ rfl rfl rfl (zc_X7_holds l D ct (h0) (aS) (aF) (aX) (th) (sg) (sv) (ln) (ta) (f1) (l1) (f2) (l2) (1) (by first | assumption | omega)) (cwV 1 Z.1.2.2.2.2 gX7_close_X7_holds rfl rfl rfl (by decide +kernel) ⟨Nat.le_of_ble_eq_true rfl, Nat.le_of_ble_eq_true rfl⟩) rfl (Nat.le_of_ble_eq_true rfl) ⟨Nat.le_of_ble_eq_true rfl, Nat.le_of_ble_eq_true rfl⟩ [true, false, false, false] [zO h0 6 [zi 1, .ref aS, zi ((sv : Nat) : Int), .ref aF, .ref aX, zi ((ln : Nat) : Int), zi ((ta : Nat) : Int), zi sg, zi ((f1 : Nat) : Int), zi ((l1 : Nat) : Int), zi ((f2 : Nat) : Int), zi ((l2 : Nat) : Int)], zAI ct aS 3888 g, zAZ ct aF 2 fz, zAI ct aX 80 (zN tx)] [zi (zb (decide (1 = 0)))] rfl rfl rfl rfl ?_
    refine z_ifb_eq Z 41 dX7_close_28 (by decide) (fun h28 => ?_) (fun h28 => ?_)
    · have h28 := of_decide_eq_false h28
      refine z_iconst (v := 0) Z dX7_close_41 rfl ?_
      refine z_eqs [zO h0 6 [zi 1, .ref aS, zi ((sv : Nat) : Int), .ref aF, .ref aX, zi ((ln : Nat) : Int), zi ((ta : Nat) : Int), zi sg, zi ((f1 : Nat) : Int), zi ((l1 : Nat) : Int), zi ((f2 : Nat) : Int), zi ((l2 : Nat) : Int)], zAI ct aS 3888 g, zAZ ct aF 2 fz, zAI ct aX 80 (zN tx)] _ [zi 0] (rfl) rfl (rfl) ?_
      exact hR _ _ () trivial dX7_close_42
    · have h28 := of_decide_eq_true h28
      exfalso; first | contradiction | omega
set_option maxHeartbeats 4000000 in
set_option maxRecDepth 100000 in
theorem zc_X7_close_2 (l : Launch) (D : va_G) (ct : zCT) (h0 : Nat) (aS : Nat) (aF : Nat) (aX : Nat) (th : Int) (sg : Int) (sv : Nat) (ln : Nat) (ta : Nat) (f1 : Nat) (l1 : Nat) (f2 : Nat) (l2 : Nat) (g : Nat → Int) (fz : Nat → Int) (tx : Nat → Nat) (cnt : Nat) (r : Nat) (hcn : g 0 = ((cnt : Nat) : Int)) (hc : cnt ≤ 40) (hg : ∀ k, k < 432 → -2 ≤ g k ∧ g k < 70000) (hhs : ∀ k, k < 40 → 0 ≤ mI g k 1 ∧ mI g k 1 < 64) (ht : ∀ j, j < 80 → tx j < 128) (hln : ln ≤ 80) (hsv : sv ≤ 6) (h2 : 0 ≤ g 2 ∧ g 2 < 50000) (h3 : 0 ≤ g 3 ∧ g 3 < 50000) (h1 : 0 ≤ g 1 ∧ g 1 < 2000) (hr : r < 4) (hop : ¬ ((0 ≤ ((r : Nat) : Int) ∧ ((r : Nat) : Int) ≤ 3) ∧ g (4 + (((r : Nat) : Int)).toNat) ≠ -2)) : zMet l yX7_close wsX7_close ({ frames := 3, cells := 0, slots := 0, locals := 63 } : Room) D ct [.ref h0, zi ((r : Nat) : Int)] [zO h0 6 [zi th, .ref aS, zi ((sv : Nat) : Int), .ref aF, .ref aX, zi ((ln : Nat) : Int), zi ((ta : Nat) : Int), zi sg, zi ((f1 : Nat) : Int), zi ((l1 : Nat) : Int), zi ((f2 : Nat) : Int), zi ((l2 : Nat) : Int)], zAI ct aS 3888 g, zAZ ct aF 2 fz, zAI ct aX 80 (zN tx)] (fun _ : Unit => True) (fun _ => some (zi (0))) (fun _ => [zO h0 6 [zi 2, .ref aS, zi ((sv : Nat) : Int), .ref aF, .ref aX, zi ((ln : Nat) : Int), zi ((ta : Nat) : Int), zi sg, zi ((f1 : Nat) : Int), zi ((l1 : Nat) : Int), zi ((f2 : Nat) : Int), zi ((l2 : Nat) : Int)], zAI ct aS 3888 g, zAZ ct aF 2 fz, zAI ct aX 80 (zN tx)]) 0 0 := by
  refine zMet_i (cc := cX7_close) (maxL := 2) (r := fun _ => 0) (by decide) rfl (Nat.le_of_ble_eq_true rfl) ?_
  intro p e s m below meth c A Q Z hnm hR
  refine z_eqs _ [(0, .ref h0), (1, zi ((r : Nat) : Int))] _ rfl rfl rfl ?_
  refine z_aload_n Z dX7_close_0 0 rfl ?_
  refine z_iload_n Z dX7_close_1 1 rfl ?_
  refine z_callSu (rest := [.ref h0]) Z dX7_close_2 (zc_X7_isReader l D ct (((r : Nat) : Int)) (by first | assumption | omega)) (va_cwS 1 Z.1.2.2.2.2 gX7_close_X7_isReader rfl rfl rfl (by decide +kernel) ⟨Nat.le_of_ble_eq_true rfl, Nat.le_of_ble_eq_true rfl⟩) rfl (Nat.le_of_ble_eq_true rfl) ⟨Nat.le_of_ble_eq_true rfl, Nat.le_of_ble_eq_true rfl⟩ [false, false, false, false] [zO h0 6 [zi th, .ref aS, zi ((sv : Nat) : Int), .ref aF, .ref aX, zi ((ln : Nat) : Int), zi ((ta : Nat) : Int), zi sg, zi ((f1 : Nat) : Int), zi ((l1 : Nat) : Int), zi ((f2 : Nat) : Int), zi ((l2 : Nat) : Int)], zAI ct aS 3888 g, zAZ ct aF 2 fz, zAI ct aX 80 (zN tx)] [zi (zb (decide (0 ≤ ((r : Nat) : Int) ∧ ((r : Nat) : Int) ≤ 3))), .ref h0] rfl rfl rfl rfl ?_
  refine z_ifb_ne Z 12 dX7_close_5 (by decide) (fun h5 => ?_) (fun h5 => ?_)
  · have h5 := of_decide_eq_true h5
    refine z_aload_n Z dX7_close_12 0 rfl ?_
    refine z_iload_n Z dX7_close_13 1 rfl ?_
    refine z_callVu (rest := [.ref h0]) Z dX7_close_14 6 0 _ _ rfl rfl rfl (zc_X7_isOpen l D ct (h0) (aS) (aF) (aX) (th) (sg) (sv) (ln) (ta) (f1) (l1) (f2) (l2) (g) (((r : Nat) : Int)) (by first | assumption | omega) (by first | assumption | omega)) (cwV 1 Z.1.2.2.2.2 gX7_close_X7_isOpen rfl rfl rfl (by decide +kernel) ⟨Nat.le_of_ble_eq_true rfl, Nat.le_of_ble_eq_true rfl⟩) rfl (Nat.le_of_ble_eq_true rfl) ⟨Nat.le_of_ble_eq_true rfl, Nat.le_of_ble_eq_true rfl⟩ [true, true, false, false] [zO h0 6 [zi th, .ref aS, zi ((sv : Nat) : Int), .ref aF, .ref aX, zi ((ln : Nat) : Int), zi ((ta : Nat) : Int), zi sg, zi ((f1 : Nat) : Int), zi ((l1 : Nat) : Int), zi ((f2 : Nat) : Int), zi ((l2 : Nat) : Int)], zAI ct aS 3888 g, zAZ ct aF 2 fz, zAI ct aX 80 (zN tx)] [zi (zb (decide ((0 ≤ ((r : Nat) : Int) ∧ ((r : Nat) : Int) ≤ 3) ∧ g (4 + ((r : Nat) : Int).toNat) ≠ -2))), .ref h0] rfl rfl rfl rfl ?_
    refine z_ifb_ne Z 24 dX7_close_17 (by decide) (fun h17 => ?_) (fun h17 => ?_)
    · have h17 := of_decide_eq_true h17
      exfalso; first | contradiction | omega
    · have h17 := of_decide_eq_false h17
      refine z_iconst (v := 2) Z dX7_close_20 rfl ?_
      refine z_goto Z 25 dX7_close_21 (by decide) ?_
      refine z_callVu (rest := []) Z dX7_close_25 6 0 _ _ rfl rfl rfl (zc_X7_holds l D ct (h0) (aS) (aF) (aX) (th) (sg) (sv) (ln) (ta) (f1) (l1) (f2) (l2) (2) (by first | assumption | omega)) (cwV 1 Z.1.2.2.2.2 gX7_close_X7_holds rfl rfl rfl (by decide +kernel) ⟨Nat.le_of_ble_eq_true rfl, Nat.le_of_ble_eq_true rfl⟩) rfl (Nat.le_of_ble_eq_true rfl) ⟨Nat.le_of_ble_eq_true rfl, Nat.le_of_ble_eq_true rfl⟩ [true, false, false, false] [zO h0 6 [zi 2, .ref aS, zi ((sv : Nat) : Int), .ref aF, .ref aX, zi ((ln : Nat) : Int), zi ((ta : Nat) : Int), zi sg, zi ((f1 : Nat) : Int), zi ((l1 : Nat) : Int), zi ((f2 : Nat) : Int), zi ((l2 : Nat) : Int)], zAI ct aS 3888 g, zAZ ct aF 2 fz, zAI ct aX 80 (zN tx)] [zi (zb (decide (2 = 0)))] rfl rfl rfl rfl ?_
      refine z_ifb_eq Z 41 dX7_close_28 (by decide) (fun h28 => ?_) (fun h28 => ?_)
      · have h28 := of_decide_eq_false h28
        refine z_iconst (v := 0) Z dX7_close_41 rfl ?_
        refine z_eqs [zO h0 6 [zi 2, .ref aS, zi ((sv : Nat) : Int), .ref aF, .ref aX, zi ((ln : Nat) : Int), zi ((ta : Nat) : Int), zi sg, zi ((f1 : Nat) : Int), zi ((l1 : Nat) : Int), zi ((f2 : Nat) : Int), zi ((l2 : Nat) : Int)], zAI ct aS 3888 g, zAZ ct aF 2 fz, zAI ct aX 80 (zN tx)] _ [zi 0] (rfl) rfl (rfl) ?_
        exact hR _ _ () trivial dX7_close_42
      · have h28 := of_decide_eq_true h28
        exfalso; first | contradiction | omega
  · have h5 := of_decide_eq_false h5
    exfalso; first | contradiction | omega
set_option maxHeartbeats 4000000 in
set_option maxRecDepth 100000 in
theorem zc_X7_close_0 (l : Launch) (D : va_G) (ct : zCT) (h0 : Nat) (aS : Nat) (aF : Nat) (aX : Nat) (th : Int) (sg : Int) (sv : Nat) (ln : Nat) (ta : Nat) (f1 : Nat) (l1 : Nat) (f2 : Nat) (l2 : Nat) (g : Nat → Int) (fz : Nat → Int) (tx : Nat → Nat) (cnt : Nat) (r : Nat) (hcn : g 0 = ((cnt : Nat) : Int)) (hc : cnt ≤ 40) (hg : ∀ k, k < 432 → -2 ≤ g k ∧ g k < 70000) (hhs : ∀ k, k < 40 → 0 ≤ mI g k 1 ∧ mI g k 1 < 64) (ht : ∀ j, j < 80 → tx j < 128) (hln : ln ≤ 80) (hsv : sv ≤ 6) (h2 : 0 ≤ g 2 ∧ g 2 < 50000) (h3 : 0 ≤ g 3 ∧ g 3 < 50000) (h1 : 0 ≤ g 1 ∧ g 1 < 2000) (hr : r < 4) (hop : (0 ≤ ((r : Nat) : Int) ∧ ((r : Nat) : Int) ≤ 3) ∧ g (4 + (((r : Nat) : Int)).toNat) ≠ -2) : zMet l yX7_close wsX7_close ({ frames := 3, cells := 0, slots := 0, locals := 67 } : Room) D ct [.ref h0, zi ((r : Nat) : Int)] [zO h0 6 [zi th, .ref aS, zi ((sv : Nat) : Int), .ref aF, .ref aX, zi ((ln : Nat) : Int), zi ((ta : Nat) : Int), zi sg, zi ((f1 : Nat) : Int), zi ((l1 : Nat) : Int), zi ((f2 : Nat) : Int), zi ((l2 : Nat) : Int)], zAI ct aS 3888 g, zAZ ct aF 2 fz, zAI ct aX 80 (zN tx)] (fun _ : Unit => True) (fun _ => some (zi ((g (4 + r))))) (fun _ => [zO h0 6 [zi 0, .ref aS, zi ((kpS sv : Nat) : Int), .ref aF, .ref aX, zi ((ln : Nat) : Int), zi ((ta : Nat) : Int), zi sg, zi ((f1 : Nat) : Int), zi ((l1 : Nat) : Int), zi ((f2 : Nat) : Int), zi ((l2 : Nat) : Int)], zAI ct aS 3888 (zU (kpG g sv) (4 + r) (-2)), zAZ ct aF 2 fz, zAI ct aX 80 (zN tx)]) 0 0 := by
  refine zMet_i (cc := cX7_close) (maxL := 2) (r := fun _ => (g (4 + r))) (by decide) rfl (Nat.le_of_ble_eq_true rfl) ?_
  intro p e s m below meth c A Q Z hnm hR
  refine z_eqs _ [(0, .ref h0), (1, zi ((r : Nat) : Int))] _ rfl rfl rfl ?_
  refine z_aload_n Z dX7_close_0 0 rfl ?_
  refine z_iload_n Z dX7_close_1 1 rfl ?_
  refine z_callSu (rest := [.ref h0]) Z dX7_close_2 (zc_X7_isReader l D ct (((r : Nat) : Int)) (by first | assumption | omega)) (va_cwS 1 Z.1.2.2.2.2 gX7_close_X7_isReader rfl rfl rfl (by decide +kernel) ⟨Nat.le_of_ble_eq_true rfl, Nat.le_of_ble_eq_true rfl⟩) rfl (Nat.le_of_ble_eq_true rfl) ⟨Nat.le_of_ble_eq_true rfl, Nat.le_of_ble_eq_true rfl⟩ [false, false, false, false] [zO h0 6 [zi th, .ref aS, zi ((sv : Nat) : Int), .ref aF, .ref aX, zi ((ln : Nat) : Int), zi ((ta : Nat) : Int), zi sg, zi ((f1 : Nat) : Int), zi ((l1 : Nat) : Int), zi ((f2 : Nat) : Int), zi ((l2 : Nat) : Int)], zAI ct aS 3888 g, zAZ ct aF 2 fz, zAI ct aX 80 (zN tx)] [zi (zb (decide (0 ≤ ((r : Nat) : Int) ∧ ((r : Nat) : Int) ≤ 3))), .ref h0] rfl rfl rfl rfl ?_
  refine z_ifb_ne Z 12 dX7_close_5 (by decide) (fun h5 => ?_) (fun h5 => ?_)
  · have h5 := of_decide_eq_true h5
    refine z_aload_n Z dX7_close_12 0 rfl ?_
    refine z_iload_n Z dX7_close_13 1 rfl ?_
    refine z_callVu (rest := [.ref h0]) Z dX7_close_14 6 0 _ _ rfl rfl rfl (zc_X7_isOpen l D ct (h0) (aS) (aF) (aX) (th) (sg) (sv) (ln) (ta) (f1) (l1) (f2) (l2) (g) (((r : Nat) : Int)) (by first | assumption | omega) (by first | assumption | omega)) (cwV 1 Z.1.2.2.2.2 gX7_close_X7_isOpen rfl rfl rfl (by decide +kernel) ⟨Nat.le_of_ble_eq_true rfl, Nat.le_of_ble_eq_true rfl⟩) rfl (Nat.le_of_ble_eq_true rfl) ⟨Nat.le_of_ble_eq_true rfl, Nat.le_of_ble_eq_true rfl⟩ [true, true, false, false] [zO h0 6 [zi th, .ref aS, zi ((sv : Nat) : Int), .ref aF, .ref aX, zi ((ln : Nat) : Int), zi ((ta : Nat) : Int), zi sg, zi ((f1 : Nat) : Int), zi ((l1 : Nat) : Int), zi ((f2 : Nat) : Int), zi ((l2 : Nat) : Int)], zAI ct aS 3888 g, zAZ ct aF 2 fz, zAI ct aX 80 (zN tx)] [zi (zb (decide ((0 ≤ ((r : Nat) : Int) ∧ ((r : Nat) : Int) ≤ 3) ∧ g (4 + ((r : Nat) : Int).toNat) ≠ -2))), .ref h0] rfl rfl rfl rfl ?_
    refine z_ifb_ne Z 24 dX7_close_17 (by decide) (fun h17 => ?_) (fun h17 => ?_)
    · have h17 := of_decide_eq_true h17
      refine z_iconst (v := 0) Z dX7_close_24 rfl ?_
      refine z_callVu (rest := []) Z dX7_close_25 6 0 _ _ rfl rfl rfl (zc_X7_holds l D ct (h0) (aS) (aF) (aX) (th) (sg) (sv) (ln) (ta) (f1) (l1) (f2) (l2) (0) (by first | assumption | omega)) (cwV 1 Z.1.2.2.2.2 gX7_close_X7_holds rfl rfl rfl (by decide +kernel) ⟨Nat.le_of_ble_eq_true rfl, Nat.le_of_ble_eq_true rfl⟩) rfl (Nat.le_of_ble_eq_true rfl) ⟨Nat.le_of_ble_eq_true rfl, Nat.le_of_ble_eq_true rfl⟩ [true, false, false, false] [zO h0 6 [zi 0, .ref aS, zi ((sv : Nat) : Int), .ref aF, .ref aX, zi ((ln : Nat) : Int), zi ((ta : Nat) : Int), zi sg, zi ((f1 : Nat) : Int), zi ((l1 : Nat) : Int), zi ((f2 : Nat) : Int), zi ((l2 : Nat) : Int)], zAI ct aS 3888 g, zAZ ct aF 2 fz, zAI ct aX 80 (zN tx)] [zi (zb (decide (0 = 0)))] rfl rfl rfl rfl ?_
      refine z_ifb_eq Z 41 dX7_close_28 (by decide) (fun h28 => ?_) (fun h28 => ?_)
      · have h28 := of_decide_eq_false h28
        exfalso; first | contradiction | omega
      · have h28 := of_decide_eq_true h28
        refine z_aload_n Z dX7_close_31 0 rfl ?_
        refine z_iload_n Z dX7_close_32 1 rfl ?_
        refine z_bipush (v := -2) Z dX7_close_33 (by decide +kernel) ?_
        refine z_callVu (rest := []) Z dX7_close_35 6 0 _ _ rfl rfl rfl (zc_X7_moves l D ct (h0) (aS) (aF) (aX) (0) (sg) (sv) (ln) (ta) (f1) (l1) (f2) (l2) (g) (r) ((-2)) (by first | assumption | omega) (by first | assumption | omega)) (cwV 2 Z.1.2.2.2.2 gX7_close_X7_moves rfl rfl rfl (by decide +kernel) ⟨Nat.le_of_ble_eq_true rfl, Nat.le_of_ble_eq_true rfl⟩) rfl (Nat.le_of_ble_eq_true rfl) ⟨Nat.le_of_ble_eq_true rfl, Nat.le_of_ble_eq_true rfl⟩ [true, true, false, false] [zO h0 6 [zi 0, .ref aS, zi ((kpS sv : Nat) : Int), .ref aF, .ref aX, zi ((ln : Nat) : Int), zi ((ta : Nat) : Int), zi sg, zi ((f1 : Nat) : Int), zi ((l1 : Nat) : Int), zi ((f2 : Nat) : Int), zi ((l2 : Nat) : Int)], zAI ct aS 3888 (zU (kpG g sv) (4 + r) (-2)), zAZ ct aF 2 fz, zAI ct aX 80 (zN tx)] [zi (g (4 + r))] rfl rfl rfl rfl ?_
        refine z_goto Z 42 dX7_close_38 (by decide) ?_
        refine z_eqs [zO h0 6 [zi 0, .ref aS, zi ((kpS sv : Nat) : Int), .ref aF, .ref aX, zi ((ln : Nat) : Int), zi ((ta : Nat) : Int), zi sg, zi ((f1 : Nat) : Int), zi ((l1 : Nat) : Int), zi ((f2 : Nat) : Int), zi ((l2 : Nat) : Int)], zAI ct aS 3888 (zU (kpG g sv) (4 + r) (-2)), zAZ ct aF 2 fz, zAI ct aX 80 (zN tx)] _ [zi (g (4 + r))] (rfl) rfl (rfl) ?_
        exact hR _ _ () trivial dX7_close_42
    · have h17 := of_decide_eq_false h17
      exfalso; first | contradiction | omega
  · have h5 := of_decide_eq_false h5
    exfalso; first | contradiction | omega
set_option maxHeartbeats 4000000 in
set_option maxRecDepth 100000 in
theorem zc_X7_next_1 (l : Launch) (D : va_G) (ct : zCT) (h0 : Nat) (aS : Nat) (aF : Nat) (aX : Nat) (th : Int) (sg : Int) (sv : Nat) (ln : Nat) (ta : Nat) (f1 : Nat) (l1 : Nat) (f2 : Nat) (l2 : Nat) (g : Nat → Int) (fz : Nat → Int) (tx : Nat → Nat) (cnt : Nat) (r : Int) (hcn : g 0 = ((cnt : Nat) : Int)) (hc : cnt ≤ 40) (hg : ∀ k, k < 432 → -2 ≤ g k ∧ g k < 70000) (hhs : ∀ k, k < 40 → 0 ≤ mI g k 1 ∧ mI g k 1 < 64) (ht : ∀ j, j < 80 → tx j < 128) (hln : ln ≤ 80) (hsv : sv ≤ 6) (h2 : 0 ≤ g 2 ∧ g 2 < 50000) (h3 : 0 ≤ g 3 ∧ g 3 < 50000) (h1 : 0 ≤ g 1 ∧ g 1 < 2000) (hr : -2147483648 ≤ r ∧ r < 2147483648) (hrr : ¬ (0 ≤ r ∧ r ≤ 3)) : zMet l yX7_next wsX7_next ({ frames := 2, cells := 0, slots := 0, locals := 42 } : Room) D ct [.ref h0, zi r] [zO h0 6 [zi th, .ref aS, zi ((sv : Nat) : Int), .ref aF, .ref aX, zi ((ln : Nat) : Int), zi ((ta : Nat) : Int), zi sg, zi ((f1 : Nat) : Int), zi ((l1 : Nat) : Int), zi ((f2 : Nat) : Int), zi ((l2 : Nat) : Int)], zAI ct aS 3888 g, zAZ ct aF 2 fz, zAI ct aX 80 (zN tx)] (fun _ : Unit => True) (fun _ => some (zi (0))) (fun _ => [zO h0 6 [zi 1, .ref aS, zi ((sv : Nat) : Int), .ref aF, .ref aX, zi ((ln : Nat) : Int), zi ((ta : Nat) : Int), zi sg, zi ((f1 : Nat) : Int), zi ((l1 : Nat) : Int), zi ((f2 : Nat) : Int), zi ((l2 : Nat) : Int)], zAI ct aS 3888 g, zAZ ct aF 2 fz, zAI ct aX 80 (zN tx)]) 0 0 := by
  refine zMet_i (cc := cX7_next) (maxL := 3) (r := fun _ => 0) (by decide) rfl (Nat.le_of_ble_eq_true rfl) ?_
  intro p e s m below meth c A Q Z hnm hR
  refine z_eqs _ [(0, .ref h0), (1, zi r)] _ rfl rfl rfl ?_
  refine z_aload_n Z dX7_next_0 0 rfl ?_
  refine z_iload_n Z dX7_next_1 1 rfl ?_
  refine z_callSu (rest := [.ref h0]) Z dX7_next_2 (zc_X7_isReader l D ct (r) (by first | assumption | omega)) (va_cwS 1 Z.1.2.2.2.2 gX7_next_X7_isReader rfl rfl rfl (by decide +kernel) ⟨Nat.le_of_ble_eq_true rfl, Nat.le_of_ble_eq_true rfl⟩) rfl (Nat.le_of_ble_eq_true rfl) ⟨Nat.le_of_ble_eq_true rfl, Nat.le_of_ble_eq_true rfl⟩ [false, false, false, false] [zO h0 6 [zi th, .ref aS, zi ((sv : Nat) : Int), .ref aF, .ref aX, zi ((ln : Nat) : Int), zi ((ta : Nat) : Int), zi sg, zi ((f1 : Nat) : Int), zi ((l1 : Nat) : Int), zi ((f2 : Nat) : Int), zi ((l2 : Nat) : Int)], zAI ct aS 3888 g, zAZ ct aF 2 fz, zAI ct aX 80 (zN tx)] [zi (zb (decide (0 ≤ r ∧ r ≤ 3))), .ref h0] rfl rfl rfl rfl ?_
  refine z_ifb_ne Z 12 dX7_next_5 (by decide) (fun h5 => ?_) (fun h5 => ?_)
  · have h5 := of_decide_eq_true h5
    exfalso; first | contradiction | omega
  · have h5 := of_decide_eq_false h5
    refine z_iconst (v := 1) Z dX7_next_8 rfl ?_
    refine z_goto Z 25 dX7_next_9 (by decide) ?_
    refine z_callVu (rest := []) Z dX7_next_25 6 0 _ _ rfl rfl rfl (zc_X7_holds l D ct (h0) (aS) (aF) (aX) (th) (sg) (sv) (ln) (ta) (f1) (l1) (f2) (l2) (1) (by first | assumption | omega)) (cwV 1 Z.1.2.2.2.2 gX7_next_X7_holds rfl rfl rfl (by decide +kernel) ⟨Nat.le_of_ble_eq_true rfl, Nat.le_of_ble_eq_true rfl⟩) rfl (Nat.le_of_ble_eq_true rfl) ⟨Nat.le_of_ble_eq_true rfl, Nat.le_of_ble_eq_true rfl⟩ [true, false, false, false] [zO h0 6 [zi 1, .ref aS, zi ((sv : Nat) : Int), .ref aF, .ref aX, zi ((ln : Nat) : Int), zi ((ta : Nat) : Int), zi sg, zi ((f1 : Nat) : Int), zi ((l1 : Nat) : Int), zi ((f2 : Nat) : Int), zi ((l2 : Nat) : Int)], zAI ct aS 3888 g, zAZ ct aF 2 fz, zAI ct aX 80 (zN tx)] [zi (zb (decide (1 = 0)))] rfl rfl rfl rfl ?_
    refine z_ifb_ne Z 33 dX7_next_28 (by decide) (fun h28 => ?_) (fun h28 => ?_)
    · have h28 := of_decide_eq_true h28
      exfalso; first | contradiction | omega
    · have h28 := of_decide_eq_false h28
      refine z_iconst (v := 0) Z dX7_next_31 rfl ?_
      refine z_eqs [zO h0 6 [zi 1, .ref aS, zi ((sv : Nat) : Int), .ref aF, .ref aX, zi ((ln : Nat) : Int), zi ((ta : Nat) : Int), zi sg, zi ((f1 : Nat) : Int), zi ((l1 : Nat) : Int), zi ((f2 : Nat) : Int), zi ((l2 : Nat) : Int)], zAI ct aS 3888 g, zAZ ct aF 2 fz, zAI ct aX 80 (zN tx)] _ [zi 0] (rfl) rfl (rfl) ?_
      exact hR _ _ () trivial dX7_next_32
set_option maxHeartbeats 4000000 in
set_option maxRecDepth 100000 in
theorem zc_X7_next_2 (l : Launch) (D : va_G) (ct : zCT) (h0 : Nat) (aS : Nat) (aF : Nat) (aX : Nat) (th : Int) (sg : Int) (sv : Nat) (ln : Nat) (ta : Nat) (f1 : Nat) (l1 : Nat) (f2 : Nat) (l2 : Nat) (g : Nat → Int) (fz : Nat → Int) (tx : Nat → Nat) (cnt : Nat) (r : Nat) (hcn : g 0 = ((cnt : Nat) : Int)) (hc : cnt ≤ 40) (hg : ∀ k, k < 432 → -2 ≤ g k ∧ g k < 70000) (hhs : ∀ k, k < 40 → 0 ≤ mI g k 1 ∧ mI g k 1 < 64) (ht : ∀ j, j < 80 → tx j < 128) (hln : ln ≤ 80) (hsv : sv ≤ 6) (h2 : 0 ≤ g 2 ∧ g 2 < 50000) (h3 : 0 ≤ g 3 ∧ g 3 < 50000) (h1 : 0 ≤ g 1 ∧ g 1 < 2000) (hr : r < 4) (hop : ¬ ((0 ≤ ((r : Nat) : Int) ∧ ((r : Nat) : Int) ≤ 3) ∧ g (4 + (((r : Nat) : Int)).toNat) ≠ -2)) : zMet l yX7_next wsX7_next ({ frames := 3, cells := 0, slots := 0, locals := 63 } : Room) D ct [.ref h0, zi ((r : Nat) : Int)] [zO h0 6 [zi th, .ref aS, zi ((sv : Nat) : Int), .ref aF, .ref aX, zi ((ln : Nat) : Int), zi ((ta : Nat) : Int), zi sg, zi ((f1 : Nat) : Int), zi ((l1 : Nat) : Int), zi ((f2 : Nat) : Int), zi ((l2 : Nat) : Int)], zAI ct aS 3888 g, zAZ ct aF 2 fz, zAI ct aX 80 (zN tx)] (fun _ : Unit => True) (fun _ => some (zi (0))) (fun _ => [zO h0 6 [zi 2, .ref aS, zi ((sv : Nat) : Int), .ref aF, .ref aX, zi ((ln : Nat) : Int), zi ((ta : Nat) : Int), zi sg, zi ((f1 : Nat) : Int), zi ((l1 : Nat) : Int), zi ((f2 : Nat) : Int), zi ((l2 : Nat) : Int)], zAI ct aS 3888 g, zAZ ct aF 2 fz, zAI ct aX 80 (zN tx)]) 0 0 := by
  refine zMet_i (cc := cX7_next) (maxL := 3) (r := fun _ => 0) (by decide) rfl (Nat.le_of_ble_eq_true rfl) ?_
  intro p e s m below meth c A Q Z hnm hR
  refine z_eqs _ [(0, .ref h0), (1, zi ((r : Nat) : Int))] _ rfl rfl rfl ?_
  refine z_aload_n Z dX7_next_0 0 rfl ?_
  refine z_iload_n Z dX7_next_1 1 rfl ?_
  refine z_callSu (rest := [.ref h0]) Z dX7_next_2 (zc_X7_isReader l D ct (((r : Nat) : Int)) (by first | assumption | omega)) (va_cwS 1 Z.1.2.2.2.2 gX7_next_X7_isReader rfl rfl rfl (by decide +kernel) ⟨Nat.le_of_ble_eq_true rfl, Nat.le_of_ble_eq_true rfl⟩) rfl (Nat.le_of_ble_eq_true rfl) ⟨Nat.le_of_ble_eq_true rfl, Nat.le_of_ble_eq_true rfl⟩ [false, false, false, false] [zO h0 6 [zi th, .ref aS, zi ((sv : Nat) : Int), .ref aF, .ref aX, zi ((ln : Nat) : Int), zi ((ta : Nat) : Int), zi sg, zi ((f1 : Nat) : Int), zi ((l1 : Nat) : Int), zi ((f2 : Nat) : Int), zi ((l2 : Nat) : Int)], zAI ct aS 3888 g, zAZ ct aF 2 fz, zAI ct aX 80 (zN tx)] [zi (zb (decide (0 ≤ ((r : Nat) : Int) ∧ ((r : Nat) : Int) ≤ 3))), .ref h0] rfl rfl rfl rfl ?_
  refine z_ifb_ne Z 12 dX7_next_5 (by decide) (fun h5 => ?_) (fun h5 => ?_)
  · have h5 := of_decide_eq_true h5
    refine z_aload_n Z dX7_next_12 0 rfl ?_
    refine z_iload_n Z dX7_next_13 1 rfl ?_
    refine z_callVu (rest := [.ref h0]) Z dX7_next_14 6 0 _ _ rfl rfl rfl (zc_X7_isOpen l D ct (h0) (aS) (aF) (aX) (th) (sg) (sv) (ln) (ta) (f1) (l1) (f2) (l2) (g) (((r : Nat) : Int)) (by first | assumption | omega) (by first | assumption | omega)) (cwV 1 Z.1.2.2.2.2 gX7_next_X7_isOpen rfl rfl rfl (by decide +kernel) ⟨Nat.le_of_ble_eq_true rfl, Nat.le_of_ble_eq_true rfl⟩) rfl (Nat.le_of_ble_eq_true rfl) ⟨Nat.le_of_ble_eq_true rfl, Nat.le_of_ble_eq_true rfl⟩ [true, true, false, false] [zO h0 6 [zi th, .ref aS, zi ((sv : Nat) : Int), .ref aF, .ref aX, zi ((ln : Nat) : Int), zi ((ta : Nat) : Int), zi sg, zi ((f1 : Nat) : Int), zi ((l1 : Nat) : Int), zi ((f2 : Nat) : Int), zi ((l2 : Nat) : Int)], zAI ct aS 3888 g, zAZ ct aF 2 fz, zAI ct aX 80 (zN tx)] [zi (zb (decide ((0 ≤ ((r : Nat) : Int) ∧ ((r : Nat) : Int) ≤ 3) ∧ g (4 + ((r : Nat) : Int).toNat) ≠ -2))), .ref h0] rfl rfl rfl rfl ?_
    refine z_ifb_ne Z 24 dX7_next_17 (by decide) (fun h17 => ?_) (fun h17 => ?_)
    · have h17 := of_decide_eq_true h17
      exfalso; first | contradiction | omega
    · have h17 := of_decide_eq_false h17
      refine z_iconst (v := 2) Z dX7_next_20 rfl ?_
      refine z_goto Z 25 dX7_next_21 (by decide) ?_
      refine z_callVu (rest := []) Z dX7_next_25 6 0 _ _ rfl rfl rfl (zc_X7_holds l D ct (h0) (aS) (aF) (aX) (th) (sg) (sv) (ln) (ta) (f1) (l1) (f2) (l2) (2) (by first | assumption | omega)) (cwV 1 Z.1.2.2.2.2 gX7_next_X7_holds rfl rfl rfl (by decide +kernel) ⟨Nat.le_of_ble_eq_true rfl, Nat.le_of_ble_eq_true rfl⟩) rfl (Nat.le_of_ble_eq_true rfl) ⟨Nat.le_of_ble_eq_true rfl, Nat.le_of_ble_eq_true rfl⟩ [true, false, false, false] [zO h0 6 [zi 2, .ref aS, zi ((sv : Nat) : Int), .ref aF, .ref aX, zi ((ln : Nat) : Int), zi ((ta : Nat) : Int), zi sg, zi ((f1 : Nat) : Int), zi ((l1 : Nat) : Int), zi ((f2 : Nat) : Int), zi ((l2 : Nat) : Int)], zAI ct aS 3888 g, zAZ ct aF 2 fz, zAI ct aX 80 (zN tx)] [zi (zb (decide (2 = 0)))] rfl rfl rfl rfl ?_
      refine z_ifb_ne Z 33 dX7_next_28 (by decide) (fun h28 => ?_) (fun h28 => ?_)
      · have h28 := of_decide_eq_true h28
        exfalso; first | contradiction | omega
      · have h28 := of_decide_eq_false h28
        refine z_iconst (v := 0) Z dX7_next_31 rfl ?_
        refine z_eqs [zO h0 6 [zi 2, .ref aS, zi ((sv : Nat) : Int), .ref aF, .ref aX, zi ((ln : Nat) : Int), zi ((ta : Nat) : Int), zi sg, zi ((f1 : Nat) : Int), zi ((l1 : Nat) : Int), zi ((f2 : Nat) : Int), zi ((l2 : Nat) : Int)], zAI ct aS 3888 g, zAZ ct aF 2 fz, zAI ct aX 80 (zN tx)] _ [zi 0] (rfl) rfl (rfl) ?_
        exact hR _ _ () trivial dX7_next_32
  · have h5 := of_decide_eq_false h5
    exfalso; first | contradiction | omega
theorem zin_X7_next_X7 : ∀ w ∈ wsX70, w ∈ wsX7_next := by decide +kernel
theorem zlk_X7_next_7 : Cond.fieldLink RX7 7 "HashedDirectoryModel" "s" "[I" ∈ wsX7_next := by decide +kernel
set_option maxHeartbeats 4000000 in
set_option maxRecDepth 100000 in
theorem zc_X7_next_0 (l : Launch) (D : va_G) (ct : zCT) (h0 : Nat) (aS : Nat) (aF : Nat) (aX : Nat) (th : Int) (sg : Int) (sv : Nat) (ln : Nat) (ta : Nat) (f1 : Nat) (l1 : Nat) (f2 : Nat) (l2 : Nat) (g : Nat → Int) (fz : Nat → Int) (tx : Nat → Nat) (cnt : Nat) (r : Nat) (hcn : g 0 = ((cnt : Nat) : Int)) (hc : cnt ≤ 40) (hg : ∀ k, k < 432 → -2 ≤ g k ∧ g k < 70000) (hhs : ∀ k, k < 40 → 0 ≤ mI g k 1 ∧ mI g k 1 < 64) (ht : ∀ j, j < 80 → tx j < 128) (hln : ln ≤ 80) (hsv : sv ≤ 6) (h2 : 0 ≤ g 2 ∧ g 2 < 50000) (h3 : 0 ≤ g 3 ∧ g 3 < 50000) (h1 : 0 ≤ g 1 ∧ g 1 < 2000) (hr : r < 4) (hop : (0 ≤ ((r : Nat) : Int) ∧ ((r : Nat) : Int) ≤ 3) ∧ g (4 + (((r : Nat) : Int)).toNat) ≠ -2) (hnp : npF (kpG g sv) r cnt = cnt) : zMet l yX7_next wsX7_next ({ frames := 3, cells := 0, slots := 0, locals := 65 } : Room) D ct [.ref h0, zi ((r : Nat) : Int)] [zO h0 6 [zi th, .ref aS, zi ((sv : Nat) : Int), .ref aF, .ref aX, zi ((ln : Nat) : Int), zi ((ta : Nat) : Int), zi sg, zi ((f1 : Nat) : Int), zi ((l1 : Nat) : Int), zi ((f2 : Nat) : Int), zi ((l2 : Nat) : Int)], zAI ct aS 3888 g, zAZ ct aF 2 fz, zAI ct aX 80 (zN tx)] (fun _ : Unit => True) (fun _ => some (zi ((-2)))) (fun _ => [zO h0 6 [zi 0, .ref aS, zi ((kpS sv : Nat) : Int), .ref aF, .ref aX, zi ((ln : Nat) : Int), zi ((ta : Nat) : Int), zi sg, zi ((f1 : Nat) : Int), zi ((l1 : Nat) : Int), zi ((f2 : Nat) : Int), zi ((l2 : Nat) : Int)], zAI ct aS 3888 (kpG g sv), zAZ ct aF 2 fz, zAI ct aX 80 (zN tx)]) 0 0 := by
  refine zMet_i (cc := cX7_next) (maxL := 3) (r := fun _ => (-2)) (by decide) rfl (Nat.le_of_ble_eq_true rfl) ?_
  intro p e s m below meth c A Q Z hnm hR
  refine z_eqs _ [(0, .ref h0), (1, zi ((r : Nat) : Int))] _ rfl rfl rfl ?_
  refine z_aload_n Z dX7_next_0 0 rfl ?_
  refine z_iload_n Z dX7_next_1 1 rfl ?_
  refine z_callSu (rest := [.ref h0]) Z dX7_next_2 (zc_X7_isReader l D ct (((r : Nat) : Int)) (by first | assumption | omega)) (va_cwS 1 Z.1.2.2.2.2 gX7_next_X7_isReader rfl rfl rfl (by decide +kernel) ⟨Nat.le_of_ble_eq_true rfl, Nat.le_of_ble_eq_true rfl⟩) rfl (Nat.le_of_ble_eq_true rfl) ⟨Nat.le_of_ble_eq_true rfl, Nat.le_of_ble_eq_true rfl⟩ [false, false, false, false] [zO h0 6 [zi th, .ref aS, zi ((sv : Nat) : Int), .ref aF, .ref aX, zi ((ln : Nat) : Int), zi ((ta : Nat) : Int), zi sg, zi ((f1 : Nat) : Int), zi ((l1 : Nat) : Int), zi ((f2 : Nat) : Int), zi ((l2 : Nat) : Int)], zAI ct aS 3888 g, zAZ ct aF 2 fz, zAI ct aX 80 (zN tx)] [zi (zb (decide (0 ≤ ((r : Nat) : Int) ∧ ((r : Nat) : Int) ≤ 3))), .ref h0] rfl rfl rfl rfl ?_
  refine z_ifb_ne Z 12 dX7_next_5 (by decide) (fun h5 => ?_) (fun h5 => ?_)
  · have h5 := of_decide_eq_true h5
    refine z_aload_n Z dX7_next_12 0 rfl ?_
    refine z_iload_n Z dX7_next_13 1 rfl ?_
    refine z_callVu (rest := [.ref h0]) Z dX7_next_14 6 0 _ _ rfl rfl rfl (zc_X7_isOpen l D ct (h0) (aS) (aF) (aX) (th) (sg) (sv) (ln) (ta) (f1) (l1) (f2) (l2) (g) (((r : Nat) : Int)) (by first | assumption | omega) (by first | assumption | omega)) (cwV 1 Z.1.2.2.2.2 gX7_next_X7_isOpen rfl rfl rfl (by decide +kernel) ⟨Nat.le_of_ble_eq_true rfl, Nat.le_of_ble_eq_true rfl⟩) rfl (Nat.le_of_ble_eq_true rfl) ⟨Nat.le_of_ble_eq_true rfl, Nat.le_of_ble_eq_true rfl⟩ [true, true, false, false] [zO h0 6 [zi th, .ref aS, zi ((sv : Nat) : Int), .ref aF, .ref aX, zi ((ln : Nat) : Int), zi ((ta : Nat) : Int), zi sg, zi ((f1 : Nat) : Int), zi ((l1 : Nat) : Int), zi ((f2 : Nat) : Int), zi ((l2 : Nat) : Int)], zAI ct aS 3888 g, zAZ ct aF 2 fz, zAI ct aX 80 (zN tx)] [zi (zb (decide ((0 ≤ ((r : Nat) : Int) ∧ ((r : Nat) : Int) ≤ 3) ∧ g (4 + ((r : Nat) : Int).toNat) ≠ -2))), .ref h0] rfl rfl rfl rfl ?_
    refine z_ifb_ne Z 24 dX7_next_17 (by decide) (fun h17 => ?_) (fun h17 => ?_)
    · have h17 := of_decide_eq_true h17
      refine z_iconst (v := 0) Z dX7_next_24 rfl ?_
      refine z_callVu (rest := []) Z dX7_next_25 6 0 _ _ rfl rfl rfl (zc_X7_holds l D ct (h0) (aS) (aF) (aX) (th) (sg) (sv) (ln) (ta) (f1) (l1) (f2) (l2) (0) (by first | assumption | omega)) (cwV 1 Z.1.2.2.2.2 gX7_next_X7_holds rfl rfl rfl (by decide +kernel) ⟨Nat.le_of_ble_eq_true rfl, Nat.le_of_ble_eq_true rfl⟩) rfl (Nat.le_of_ble_eq_true rfl) ⟨Nat.le_of_ble_eq_true rfl, Nat.le_of_ble_eq_true rfl⟩ [true, false, false, false] [zO h0 6 [zi 0, .ref aS, zi ((sv : Nat) : Int), .ref aF, .ref aX, zi ((ln : Nat) : Int), zi ((ta : Nat) : Int), zi sg, zi ((f1 : Nat) : Int), zi ((l1 : Nat) : Int), zi ((f2 : Nat) : Int), zi ((l2 : Nat) : Int)], zAI ct aS 3888 g, zAZ ct aF 2 fz, zAI ct aX 80 (zN tx)] [zi (zb (decide (0 = 0)))] rfl rfl rfl rfl ?_
      refine z_ifb_ne Z 33 dX7_next_28 (by decide) (fun h28 => ?_) (fun h28 => ?_)
      · have h28 := of_decide_eq_true h28
        refine z_aload_n Z dX7_next_33 0 rfl ?_
        refine z_callVu (rest := []) Z dX7_next_34 6 0 _ _ rfl rfl rfl (zc_X7_keeps l D ct (h0) (aS) (aF) (aX) (0) (sg) (sv) (ln) (ta) (f1) (l1) (f2) (l2) (g) (by first | assumption | omega)) (cwV 0 Z.1.2.2.2.2 gX7_next_X7_keeps rfl rfl rfl (by decide +kernel) ⟨Nat.le_of_ble_eq_true rfl, Nat.le_of_ble_eq_true rfl⟩) rfl (Nat.le_of_ble_eq_true rfl) ⟨Nat.le_of_ble_eq_true rfl, Nat.le_of_ble_eq_true rfl⟩ [true, true, false, false] [zO h0 6 [zi 0, .ref aS, zi ((kpS sv : Nat) : Int), .ref aF, .ref aX, zi ((ln : Nat) : Int), zi ((ta : Nat) : Int), zi sg, zi ((f1 : Nat) : Int), zi ((l1 : Nat) : Int), zi ((f2 : Nat) : Int), zi ((l2 : Nat) : Int)], zAI ct aS 3888 (kpG g sv), zAZ ct aF 2 fz, zAI ct aX 80 (zN tx)] [] rfl rfl rfl rfl ?_
        refine z_aload_n Z dX7_next_37 0 rfl ?_
        refine z_iload_n Z dX7_next_38 1 rfl ?_
        refine z_callVu (rest := []) Z dX7_next_39 6 0 _ _ rfl rfl rfl (zc_X7_nextPlace l D ct (h0) (aS) (aF) (aX) (0) (sg) (kpS sv) (ln) (ta) (f1) (l1) (f2) (l2) (kpG g sv) (cnt) (r) (kp_cn hsv hcn) (by first | assumption | omega) (kp_rg hsv hg) (by first | assumption | omega)) (cwV 1 Z.1.2.2.2.2 gX7_next_X7_nextPlace rfl rfl rfl (by decide +kernel) ⟨Nat.le_of_ble_eq_true rfl, Nat.le_of_ble_eq_true rfl⟩) rfl (Nat.le_of_ble_eq_true rfl) ⟨Nat.le_of_ble_eq_true rfl, Nat.le_of_ble_eq_true rfl⟩ [true, true, false, false] [zO h0 6 [zi 0, .ref aS, zi (((kpS sv) : Nat) : Int), .ref aF, .ref aX, zi ((ln : Nat) : Int), zi ((ta : Nat) : Int), zi sg, zi ((f1 : Nat) : Int), zi ((l1 : Nat) : Int), zi ((f2 : Nat) : Int), zi ((l2 : Nat) : Int)], zAI ct aS 3888 (kpG g sv), zAZ ct aF 2 fz, zAI ct aX 80 (zN tx)] [zi ((npF (kpG g sv) r cnt : Nat) : Int)] rfl rfl rfl rfl ?_
        have hp9 : npF (kpG g sv) r cnt ≤ cnt := fiF_le _ _
        refine z_istore_n Z dX7_next_42 [(2, zi ((npF (kpG g sv) r cnt : Nat) : Int)), (0, .ref h0), (1, zi ((r : Nat) : Int))] (by decide) rfl ?_
        refine z_iload_n Z dX7_next_43 0 rfl ?_
        refine z_aload_n Z dX7_next_44 1 rfl ?_
        refine z_get Z dX7_next_45 zin_X7_next_X7 0 1 rfl rfl (by decide) zlk_X7_next_7 rfl ?_
        refine z_iconst (v := 0) Z dX7_next_48 rfl ?_
        refine z_iald Z dX7_next_49 1 (0) rfl (by omega) ⟨by omega, by omega⟩ ?_
        have hk0 := kp_cn hsv hcn
        refine z_icmp_ne Z 56 dX7_next_50 (by decide) (by omega) (by omega) (fun h50 => ?_) (fun h50 => ?_)
        · exfalso; first | contradiction | omega
        · refine z_bipush (v := -2) Z dX7_next_53 (by decide +kernel) ?_
          refine z_eqs [zO h0 6 [zi 0, .ref aS, zi ((kpS sv : Nat) : Int), .ref aF, .ref aX, zi ((ln : Nat) : Int), zi ((ta : Nat) : Int), zi sg, zi ((f1 : Nat) : Int), zi ((l1 : Nat) : Int), zi ((f2 : Nat) : Int), zi ((l2 : Nat) : Int)], zAI ct aS 3888 (kpG g sv), zAZ ct aF 2 fz, zAI ct aX 80 (zN tx)] _ [zi (-2)] (rfl) rfl (rfl) ?_
          exact hR _ _ () trivial dX7_next_55
      · have h28 := of_decide_eq_false h28
        exfalso; first | contradiction | omega
    · have h17 := of_decide_eq_false h17
      exfalso; first | contradiction | omega
  · have h5 := of_decide_eq_false h5
    exfalso; first | contradiction | omega
set_option maxHeartbeats 4000000 in
set_option maxRecDepth 100000 in
theorem zc_X7_next_3 (l : Launch) (D : va_G) (ct : zCT) (h0 : Nat) (aS : Nat) (aF : Nat) (aX : Nat) (th : Int) (sg : Int) (sv : Nat) (ln : Nat) (ta : Nat) (f1 : Nat) (l1 : Nat) (f2 : Nat) (l2 : Nat) (g : Nat → Int) (fz : Nat → Int) (tx : Nat → Nat) (cnt : Nat) (r : Nat) (hcn : g 0 = ((cnt : Nat) : Int)) (hc : cnt ≤ 40) (hg : ∀ k, k < 432 → -2 ≤ g k ∧ g k < 70000) (hhs : ∀ k, k < 40 → 0 ≤ mI g k 1 ∧ mI g k 1 < 64) (ht : ∀ j, j < 80 → tx j < 128) (hln : ln ≤ 80) (hsv : sv ≤ 6) (h2 : 0 ≤ g 2 ∧ g 2 < 50000) (h3 : 0 ≤ g 3 ∧ g 3 < 50000) (h1 : 0 ≤ g 1 ∧ g 1 < 2000) (hr : r < 4) (hop : (0 ≤ ((r : Nat) : Int) ∧ ((r : Nat) : Int) ≤ 3) ∧ g (4 + (((r : Nat) : Int)).toNat) ≠ -2) (hnp : npF (kpG g sv) r cnt ≠ cnt) : zMet l yX7_next wsX7_next ({ frames := 3, cells := 0, slots := 0, locals := 65 } : Room) D ct [.ref h0, zi ((r : Nat) : Int)] [zO h0 6 [zi th, .ref aS, zi ((sv : Nat) : Int), .ref aF, .ref aX, zi ((ln : Nat) : Int), zi ((ta : Nat) : Int), zi sg, zi ((f1 : Nat) : Int), zi ((l1 : Nat) : Int), zi ((f2 : Nat) : Int), zi ((l2 : Nat) : Int)], zAI ct aS 3888 g, zAZ ct aF 2 fz, zAI ct aX 80 (zN tx)] (fun _ : Unit => True) (fun _ => some (zi ((mI (kpG g sv) (npF (kpG g sv) r cnt) 0)))) (fun _ => [zO h0 6 [zi 0, .ref aS, zi ((kpS sv : Nat) : Int), .ref aF, .ref aX, zi ((ln : Nat) : Int), zi ((ta : Nat) : Int), zi sg, zi ((f1 : Nat) : Int), zi ((l1 : Nat) : Int), zi ((f2 : Nat) : Int), zi ((l2 : Nat) : Int)], zAI ct aS 3888 (zU (kpG g sv) (4 + r) (mK (kpG g sv) (npF (kpG g sv) r cnt))), zAZ ct aF 2 fz, zAI ct aX 80 (zN tx)]) 0 0 := by
  refine zMet_i (cc := cX7_next) (maxL := 3) (r := fun _ => (mI (kpG g sv) (npF (kpG g sv) r cnt) 0)) (by decide) rfl (Nat.le_of_ble_eq_true rfl) ?_
  intro p e s m below meth c A Q Z hnm hR
  refine z_eqs _ [(0, .ref h0), (1, zi ((r : Nat) : Int))] _ rfl rfl rfl ?_
  refine z_aload_n Z dX7_next_0 0 rfl ?_
  refine z_iload_n Z dX7_next_1 1 rfl ?_
  refine z_callSu (rest := [.ref h0]) Z dX7_next_2 (zc_X7_isReader l D ct (((r : Nat) : Int)) (by first | assumption | omega)) (va_cwS 1 Z.1.2.2.2.2 gX7_next_X7_isReader rfl rfl rfl (by decide +kernel) ⟨Nat.le_of_ble_eq_true rfl, Nat.le_of_ble_eq_true rfl⟩) rfl (Nat.le_of_ble_eq_true rfl) ⟨Nat.le_of_ble_eq_true rfl, Nat.le_of_ble_eq_true rfl⟩ [false, false, false, false] [zO h0 6 [zi th, .ref aS, zi ((sv : Nat) : Int), .ref aF, .ref aX, zi ((ln : Nat) : Int), zi ((ta : Nat) : Int), zi sg, zi ((f1 : Nat) : Int), zi ((l1 : Nat) : Int), zi ((f2 : Nat) : Int), zi ((l2 : Nat) : Int)], zAI ct aS 3888 g, zAZ ct aF 2 fz, zAI ct aX 80 (zN tx)] [zi (zb (decide (0 ≤ ((r : Nat) : Int) ∧ ((r : Nat) : Int) ≤ 3))), .ref h0] rfl rfl rfl rfl ?_
  refine z_ifb_ne Z 12 dX7_next_5 (by decide) (fun h5 => ?_) (fun h5 => ?_)
  · have h5 := of_decide_eq_true h5
    refine z_aload_n Z dX7_next_12 0 rfl ?_
    refine z_iload_n Z dX7_next_13 1 rfl ?_
    refine z_callVu (rest := [.ref h0]) Z dX7_next_14 6 0 _ _ rfl rfl rfl (zc_X7_isOpen l D ct (h0) (aS) (aF) (aX) (th) (sg) (sv) (ln) (ta) (f1) (l1) (f2) (l2) (g) (((r : Nat) : Int)) (by first | assumption | omega) (by first | assumption | omega)) (cwV 1 Z.1.2.2.2.2 gX7_next_X7_isOpen rfl rfl rfl (by decide +kernel) ⟨Nat.le_of_ble_eq_true rfl, Nat.le_of_ble_eq_true rfl⟩) rfl (Nat.le_of_ble_eq_true rfl) ⟨Nat.le_of_ble_eq_true rfl, Nat.le_of_ble_eq_true rfl⟩ [true, true, false, false] [zO h0 6 [zi th, .ref aS, zi ((sv : Nat) : Int), .ref aF, .ref aX, zi ((ln : Nat) : Int), zi ((ta : Nat) : Int), zi sg, zi ((f1 : Nat) : Int), zi ((l1 : Nat) : Int), zi ((f2 : Nat) : Int), zi ((l2 : Nat) : Int)], zAI ct aS 3888 g, zAZ ct aF 2 fz, zAI ct aX 80 (zN tx)] [zi (zb (decide ((0 ≤ ((r : Nat) : Int) ∧ ((r : Nat) : Int) ≤ 3) ∧ g (4 + ((r : Nat) : Int).toNat) ≠ -2))), .ref h0] rfl rfl rfl rfl ?_
    refine z_ifb_ne Z 24 dX7_next_17 (by decide) (fun h17 => ?_) (fun h17 => ?_)
    · have h17 := of_decide_eq_true h17
      refine z_iconst (v := 0) Z dX7_next_24 rfl ?_
      refine z_callVu (rest := []) Z dX7_next_25 6 0 _ _ rfl rfl rfl (zc_X7_holds l D ct (h0) (aS) (aF) (aX) (th) (sg) (sv) (ln) (ta) (f1) (l1) (f2) (l2) (0) (by first | assumption | omega)) (cwV 1 Z.1.2.2.2.2 gX7_next_X7_holds rfl rfl rfl (by decide +kernel) ⟨Nat.le_of_ble_eq_true rfl, Nat.le_of_ble_eq_true rfl⟩) rfl (Nat.le_of_ble_eq_true rfl) ⟨Nat.le_of_ble_eq_true rfl, Nat.le_of_ble_eq_true rfl⟩ [true, false, false, false] [zO h0 6 [zi 0, .ref aS, zi ((sv : Nat) : Int), .ref aF, .ref aX, zi ((ln : Nat) : Int), zi ((ta : Nat) : Int), zi sg, zi ((f1 : Nat) : Int), zi ((l1 : Nat) : Int), zi ((f2 : Nat) : Int), zi ((l2 : Nat) : Int)], zAI ct aS 3888 g, zAZ ct aF 2 fz, zAI ct aX 80 (zN tx)] [zi (zb (decide (0 = 0)))] rfl rfl rfl rfl ?_
      refine z_ifb_ne Z 33 dX7_next_28 (by decide) (fun h28 => ?_) (fun h28 => ?_)
      · have h28 := of_decide_eq_true h28
        refine z_aload_n Z dX7_next_33 0 rfl ?_
        refine z_callVu (rest := []) Z dX7_next_34 6 0 _ _ rfl rfl rfl (zc_X7_keeps l D ct (h0) (aS) (aF) (aX) (0) (sg) (sv) (ln) (ta) (f1) (l1) (f2) (l2) (g) (by first | assumption | omega)) (cwV 0 Z.1.2.2.2.2 gX7_next_X7_keeps rfl rfl rfl (by decide +kernel) ⟨Nat.le_of_ble_eq_true rfl, Nat.le_of_ble_eq_true rfl⟩) rfl (Nat.le_of_ble_eq_true rfl) ⟨Nat.le_of_ble_eq_true rfl, Nat.le_of_ble_eq_true rfl⟩ [true, true, false, false] [zO h0 6 [zi 0, .ref aS, zi ((kpS sv : Nat) : Int), .ref aF, .ref aX, zi ((ln : Nat) : Int), zi ((ta : Nat) : Int), zi sg, zi ((f1 : Nat) : Int), zi ((l1 : Nat) : Int), zi ((f2 : Nat) : Int), zi ((l2 : Nat) : Int)], zAI ct aS 3888 (kpG g sv), zAZ ct aF 2 fz, zAI ct aX 80 (zN tx)] [] rfl rfl rfl rfl ?_
        refine z_aload_n Z dX7_next_37 0 rfl ?_
        refine z_iload_n Z dX7_next_38 1 rfl ?_
        refine z_callVu (rest := []) Z dX7_next_39 6 0 _ _ rfl rfl rfl (zc_X7_nextPlace l D ct (h0) (aS) (aF) (aX) (0) (sg) (kpS sv) (ln) (ta) (f1) (l1) (f2) (l2) (kpG g sv) (cnt) (r) (kp_cn hsv hcn) (by first | assumption | omega) (kp_rg hsv hg) (by first | assumption | omega)) (cwV 1 Z.1.2.2.2.2 gX7_next_X7_nextPlace rfl rfl rfl (by decide +kernel) ⟨Nat.le_of_ble_eq_true rfl, Nat.le_of_ble_eq_true rfl⟩) rfl (Nat.le_of_ble_eq_true rfl) ⟨Nat.le_of_ble_eq_true rfl, Nat.le_of_ble_eq_true rfl⟩ [true, true, false, false] [zO h0 6 [zi 0, .ref aS, zi (((kpS sv) : Nat) : Int), .ref aF, .ref aX, zi ((ln : Nat) : Int), zi ((ta : Nat) : Int), zi sg, zi ((f1 : Nat) : Int), zi ((l1 : Nat) : Int), zi ((f2 : Nat) : Int), zi ((l2 : Nat) : Int)], zAI ct aS 3888 (kpG g sv), zAZ ct aF 2 fz, zAI ct aX 80 (zN tx)] [zi ((npF (kpG g sv) r cnt : Nat) : Int)] rfl rfl rfl rfl ?_
        have hp9 : npF (kpG g sv) r cnt ≤ cnt := fiF_le _ _
        refine z_istore_n Z dX7_next_42 [(2, zi ((npF (kpG g sv) r cnt : Nat) : Int)), (0, .ref h0), (1, zi ((r : Nat) : Int))] (by decide) rfl ?_
        refine z_iload_n Z dX7_next_43 0 rfl ?_
        refine z_aload_n Z dX7_next_44 1 rfl ?_
        refine z_get Z dX7_next_45 zin_X7_next_X7 0 1 rfl rfl (by decide) zlk_X7_next_7 rfl ?_
        refine z_iconst (v := 0) Z dX7_next_48 rfl ?_
        refine z_iald Z dX7_next_49 1 (0) rfl (by omega) ⟨by omega, by omega⟩ ?_
        have hk0 := kp_cn hsv hcn
        refine z_icmp_ne Z 56 dX7_next_50 (by decide) (by omega) (by omega) (fun h50 => ?_) (fun h50 => ?_)
        · refine z_aload_n Z dX7_next_56 1 rfl ?_
          refine z_get Z dX7_next_57 zin_X7_next_X7 0 1 rfl rfl (by decide) zlk_X7_next_7 rfl ?_
          refine z_iconst (v := 4) Z dX7_next_60 rfl ?_
          refine z_iload_n Z dX7_next_61 2 rfl ?_
          refine z_iadd Z dX7_next_62 ?_
          refine z_top (y := ((4 + r : Nat) : Int)) (by omega) ?_
          refine z_aload_n Z dX7_next_63 1 rfl ?_
          refine z_iload_n Z dX7_next_64 0 rfl ?_
          refine z_eqs [zO h0 6 [zi 0, .ref aS, zi ((kpS sv : Nat) : Int), .ref aF, .ref aX, zi ((ln : Nat) : Int), zi ((ta : Nat) : Int), zi sg, zi ((f1 : Nat) : Int), zi ((l1 : Nat) : Int), zi ((f2 : Nat) : Int), zi ((l2 : Nat) : Int)], zAI ct aS 3888 (kpG g sv), zAZ ct aF 2 fz, zAI ct aX 80 (zN tx)] _ [zi ((npF (kpG g sv) r cnt : Nat) : Int), .ref h0, zi ((4 + r : Nat) : Int), .ref aS] (by rw [show (((kpS sv) : Nat) : Int) = ((kpS sv : Nat) : Int) from by omega]) rfl (rfl) ?_
          refine z_callVu (rest := [zi ((4 + r : Nat) : Int), .ref aS]) Z dX7_next_65 6 0 _ _ rfl rfl rfl (zc_X7_keyAt l D ct (h0) (aS) (aF) (aX) (0) (sg) (kpS sv) (ln) (ta) (f1) (l1) (f2) (l2) ((kpG g sv)) (npF (kpG g sv) r cnt) (by first | assumption | omega)) (cwV 1 Z.1.2.2.2.2 gX7_next_X7_keyAt rfl rfl rfl (by decide +kernel) ⟨Nat.le_of_ble_eq_true rfl, Nat.le_of_ble_eq_true rfl⟩) rfl (Nat.le_of_ble_eq_true rfl) ⟨Nat.le_of_ble_eq_true rfl, Nat.le_of_ble_eq_true rfl⟩ [true, true, false, false] [zO h0 6 [zi 0, .ref aS, zi (((kpS sv) : Nat) : Int), .ref aF, .ref aX, zi ((ln : Nat) : Int), zi ((ta : Nat) : Int), zi sg, zi ((f1 : Nat) : Int), zi ((l1 : Nat) : Int), zi ((f2 : Nat) : Int), zi ((l2 : Nat) : Int)], zAI ct aS 3888 (kpG g sv), zAZ ct aF 2 fz, zAI ct aX 80 (zN tx)] [zi (mK (kpG g sv) (npF (kpG g sv) r cnt)), zi ((4 + r : Nat) : Int), .ref aS] rfl rfl rfl rfl ?_
          refine z_iast Z dX7_next_68 1 (4 + r) [zO h0 6 [zi 0, .ref aS, zi (((kpS sv) : Nat) : Int), .ref aF, .ref aX, zi ((ln : Nat) : Int), zi ((ta : Nat) : Int), zi sg, zi ((f1 : Nat) : Int), zi ((l1 : Nat) : Int), zi ((f2 : Nat) : Int), zi ((l2 : Nat) : Int)], zAI ct aS 3888 (zU (kpG g sv) (4 + r) (mK (kpG g sv) (npF (kpG g sv) r cnt))), zAZ ct aF 2 fz, zAI ct aX 80 (zN tx)] rfl (rfl) ⟨by omega, by omega⟩ rfl ?_
          refine z_aload_n Z dX7_next_69 1 rfl ?_
          refine z_iload_n Z dX7_next_70 0 rfl ?_
          refine z_iconst (v := 0) Z dX7_next_71 rfl ?_
          refine z_eqs [zO h0 6 [zi 0, .ref aS, zi ((kpS sv : Nat) : Int), .ref aF, .ref aX, zi ((ln : Nat) : Int), zi ((ta : Nat) : Int), zi sg, zi ((f1 : Nat) : Int), zi ((l1 : Nat) : Int), zi ((f2 : Nat) : Int), zi ((l2 : Nat) : Int)], zAI ct aS 3888 (zU (kpG g sv) (4 + r) (mK (kpG g sv) (npF (kpG g sv) r cnt))), zAZ ct aF 2 fz, zAI ct aX 80 (zN tx)] _ [zi 0, zi ((npF (kpG g sv) r cnt : Nat) : Int), .ref h0] (by rw [show (((kpS sv) : Nat) : Int) = ((kpS sv : Nat) : Int) from by omega]) rfl (rfl) ?_
          refine z_callVu (rest := []) Z dX7_next_72 6 0 _ _ rfl rfl rfl (zc_X7_of l D ct (h0) (aS) (aF) (aX) (0) (sg) (kpS sv) (ln) (ta) (f1) (l1) (f2) (l2) (zU (kpG g sv) (4 + r) (mK (kpG g sv) (npF (kpG g sv) r cnt))) (npF (kpG g sv) r cnt) (0) (by first | assumption | omega) (by first | assumption | omega)) (cwV 2 Z.1.2.2.2.2 gX7_next_X7_of rfl rfl rfl (by decide +kernel) ⟨Nat.le_of_ble_eq_true rfl, Nat.le_of_ble_eq_true rfl⟩) rfl (Nat.le_of_ble_eq_true rfl) ⟨Nat.le_of_ble_eq_true rfl, Nat.le_of_ble_eq_true rfl⟩ [true, true, false, false] [zO h0 6 [zi 0, .ref aS, zi (((kpS sv) : Nat) : Int), .ref aF, .ref aX, zi ((ln : Nat) : Int), zi ((ta : Nat) : Int), zi sg, zi ((f1 : Nat) : Int), zi ((l1 : Nat) : Int), zi ((f2 : Nat) : Int), zi ((l2 : Nat) : Int)], zAI ct aS 3888 (zU (kpG g sv) (4 + r) (mK (kpG g sv) (npF (kpG g sv) r cnt))), zAZ ct aF 2 fz, zAI ct aX 80 (zN tx)] [zi (mI (zU (kpG g sv) (4 + r) (mK (kpG g sv) (npF (kpG g sv) r cnt))) (npF (kpG g sv) r cnt) 0)] rfl rfl rfl rfl ?_
          refine z_top (y := (mI (kpG g sv) (npF (kpG g sv) r cnt) 0)) ((zU_I (by omega)).symm) ?_
          refine z_eqs [zO h0 6 [zi 0, .ref aS, zi ((kpS sv : Nat) : Int), .ref aF, .ref aX, zi ((ln : Nat) : Int), zi ((ta : Nat) : Int), zi sg, zi ((f1 : Nat) : Int), zi ((l1 : Nat) : Int), zi ((f2 : Nat) : Int), zi ((l2 : Nat) : Int)], zAI ct aS 3888 (zU (kpG g sv) (4 + r) (mK (kpG g sv) (npF (kpG g sv) r cnt))), zAZ ct aF 2 fz, zAI ct aX 80 (zN tx)] _ [zi (mI (kpG g sv) (npF (kpG g sv) r cnt) 0)] (rfl) rfl (rfl) ?_
          exact hR _ _ () trivial dX7_next_75
        · exfalso; first | contradiction | omega
      · have h28 := of_decide_eq_false h28
        exfalso; first | contradiction | omega
    · have h17 := of_decide_eq_false h17
      exfalso; first | contradiction | omega
  · have h5 := of_decide_eq_false h5
    exfalso; first | contradiction | omega
set_option maxHeartbeats 4000000 in
set_option maxRecDepth 100000 in
theorem zc_X7_readLeaf_1 (l : Launch) (D : va_G) (ct : zCT) (h0 : Nat) (aS : Nat) (aF : Nat) (aX : Nat) (th : Int) (sg : Int) (sv : Nat) (ln : Nat) (ta : Nat) (f1 : Nat) (l1 : Nat) (f2 : Nat) (l2 : Nat) (g : Nat → Int) (fz : Nat → Int) (tx : Nat → Nat) (cnt : Nat) (r : Int) (hcn : g 0 = ((cnt : Nat) : Int)) (hc : cnt ≤ 40) (hg : ∀ k, k < 432 → -2 ≤ g k ∧ g k < 70000) (hhs : ∀ k, k < 40 → 0 ≤ mI g k 1 ∧ mI g k 1 < 64) (ht : ∀ j, j < 80 → tx j < 128) (hln : ln ≤ 80) (hsv : sv ≤ 6) (h2 : 0 ≤ g 2 ∧ g 2 < 50000) (h3 : 0 ≤ g 3 ∧ g 3 < 50000) (h1 : 0 ≤ g 1 ∧ g 1 < 2000) (hr : -2147483648 ≤ r ∧ r < 2147483648) (hrr : ¬ (0 ≤ r ∧ r ≤ 3)) : zMet l yX7_readLeaf wsX7_readLeaf ({ frames := 2, cells := 0, slots := 0, locals := 42 } : Room) D ct [.ref h0, zi r] [zO h0 6 [zi th, .ref aS, zi ((sv : Nat) : Int), .ref aF, .ref aX, zi ((ln : Nat) : Int), zi ((ta : Nat) : Int), zi sg, zi ((f1 : Nat) : Int), zi ((l1 : Nat) : Int), zi ((f2 : Nat) : Int), zi ((l2 : Nat) : Int)], zAI ct aS 3888 g, zAZ ct aF 2 fz, zAI ct aX 80 (zN tx)] (fun _ : Unit => True) (fun _ => some (zi (0))) (fun _ => [zO h0 6 [zi 1, .ref aS, zi ((sv : Nat) : Int), .ref aF, .ref aX, zi ((ln : Nat) : Int), zi ((ta : Nat) : Int), zi sg, zi ((f1 : Nat) : Int), zi ((l1 : Nat) : Int), zi ((f2 : Nat) : Int), zi ((l2 : Nat) : Int)], zAI ct aS 3888 g, zAZ ct aF 2 fz, zAI ct aX 80 (zN tx)]) 0 0 := by
  refine zMet_i (cc := cX7_readLeaf) (maxL := 6) (r := fun _ => 0) (by decide) rfl (Nat.le_of_ble_eq_true rfl) ?_
  intro p e s m below meth c A Q Z hnm hR
  refine z_eqs _ [(0, .ref h0), (1, zi r)] _ rfl rfl rfl ?_
  refine z_aload_n Z dX7_readLeaf_0 0 rfl ?_
  refine z_iload_n Z dX7_readLeaf_1 1 rfl ?_
  refine z_callSu (rest := [.ref h0]) Z dX7_readLeaf_2 (zc_X7_isReader l D ct (r) (by first | assumption | omega)) (va_cwS 1 Z.1.2.2.2.2 gX7_readLeaf_X7_isReader rfl rfl rfl (by decide +kernel) ⟨Nat.le_of_ble_eq_true rfl, Nat.le_of_ble_eq_true rfl⟩) rfl (Nat.le_of_ble_eq_true rfl) ⟨Nat.le_of_ble_eq_true rfl, Nat.le_of_ble_eq_true rfl⟩ [false, false, false, false] [zO h0 6 [zi th, .ref aS, zi ((sv : Nat) : Int), .ref aF, .ref aX, zi ((ln : Nat) : Int), zi ((ta : Nat) : Int), zi sg, zi ((f1 : Nat) : Int), zi ((l1 : Nat) : Int), zi ((f2 : Nat) : Int), zi ((l2 : Nat) : Int)], zAI ct aS 3888 g, zAZ ct aF 2 fz, zAI ct aX 80 (zN tx)] [zi (zb (decide (0 ≤ r ∧ r ≤ 3))), .ref h0] rfl rfl rfl rfl ?_
  refine z_ifb_ne Z 12 dX7_readLeaf_5 (by decide) (fun h5 => ?_) (fun h5 => ?_)
  · have h5 := of_decide_eq_true h5
    exfalso; first | contradiction | omega
  · have h5 := of_decide_eq_false h5
    refine z_iconst (v := 1) Z dX7_readLeaf_8 rfl ?_
    refine z_goto Z 25 dX7_readLeaf_9 (by decide) ?_
    refine z_callVu (rest := []) Z dX7_readLeaf_25 6 0 _ _ rfl rfl rfl (zc_X7_holds l D ct (h0) (aS) (aF) (aX) (th) (sg) (sv) (ln) (ta) (f1) (l1) (f2) (l2) (1) (by first | assumption | omega)) (cwV 1 Z.1.2.2.2.2 gX7_readLeaf_X7_holds rfl rfl rfl (by decide +kernel) ⟨Nat.le_of_ble_eq_true rfl, Nat.le_of_ble_eq_true rfl⟩) rfl (Nat.le_of_ble_eq_true rfl) ⟨Nat.le_of_ble_eq_true rfl, Nat.le_of_ble_eq_true rfl⟩ [true, false, false, false] [zO h0 6 [zi 1, .ref aS, zi ((sv : Nat) : Int), .ref aF, .ref aX, zi ((ln : Nat) : Int), zi ((ta : Nat) : Int), zi sg, zi ((f1 : Nat) : Int), zi ((l1 : Nat) : Int), zi ((f2 : Nat) : Int), zi ((l2 : Nat) : Int)], zAI ct aS 3888 g, zAZ ct aF 2 fz, zAI ct aX 80 (zN tx)] [zi (zb (decide (1 = 0)))] rfl rfl rfl rfl ?_
    refine z_ifb_ne Z 33 dX7_readLeaf_28 (by decide) (fun h28 => ?_) (fun h28 => ?_)
    · have h28 := of_decide_eq_true h28
      exfalso; first | contradiction | omega
    · have h28 := of_decide_eq_false h28
      refine z_iconst (v := 0) Z dX7_readLeaf_31 rfl ?_
      refine z_eqs [zO h0 6 [zi 1, .ref aS, zi ((sv : Nat) : Int), .ref aF, .ref aX, zi ((ln : Nat) : Int), zi ((ta : Nat) : Int), zi sg, zi ((f1 : Nat) : Int), zi ((l1 : Nat) : Int), zi ((f2 : Nat) : Int), zi ((l2 : Nat) : Int)], zAI ct aS 3888 g, zAZ ct aF 2 fz, zAI ct aX 80 (zN tx)] _ [zi 0] (rfl) rfl (rfl) ?_
      exact hR _ _ () trivial dX7_readLeaf_32
set_option maxHeartbeats 4000000 in
set_option maxRecDepth 100000 in
theorem zc_X7_readLeaf_2 (l : Launch) (D : va_G) (ct : zCT) (h0 : Nat) (aS : Nat) (aF : Nat) (aX : Nat) (th : Int) (sg : Int) (sv : Nat) (ln : Nat) (ta : Nat) (f1 : Nat) (l1 : Nat) (f2 : Nat) (l2 : Nat) (g : Nat → Int) (fz : Nat → Int) (tx : Nat → Nat) (cnt : Nat) (r : Nat) (hcn : g 0 = ((cnt : Nat) : Int)) (hc : cnt ≤ 40) (hg : ∀ k, k < 432 → -2 ≤ g k ∧ g k < 70000) (hhs : ∀ k, k < 40 → 0 ≤ mI g k 1 ∧ mI g k 1 < 64) (ht : ∀ j, j < 80 → tx j < 128) (hln : ln ≤ 80) (hsv : sv ≤ 6) (h2 : 0 ≤ g 2 ∧ g 2 < 50000) (h3 : 0 ≤ g 3 ∧ g 3 < 50000) (h1 : 0 ≤ g 1 ∧ g 1 < 2000) (hr : r < 4) (hop : ¬ ((0 ≤ ((r : Nat) : Int) ∧ ((r : Nat) : Int) ≤ 3) ∧ g (4 + (((r : Nat) : Int)).toNat) ≠ -2)) : zMet l yX7_readLeaf wsX7_readLeaf ({ frames := 3, cells := 0, slots := 0, locals := 63 } : Room) D ct [.ref h0, zi ((r : Nat) : Int)] [zO h0 6 [zi th, .ref aS, zi ((sv : Nat) : Int), .ref aF, .ref aX, zi ((ln : Nat) : Int), zi ((ta : Nat) : Int), zi sg, zi ((f1 : Nat) : Int), zi ((l1 : Nat) : Int), zi ((f2 : Nat) : Int), zi ((l2 : Nat) : Int)], zAI ct aS 3888 g, zAZ ct aF 2 fz, zAI ct aX 80 (zN tx)] (fun _ : Unit => True) (fun _ => some (zi (0))) (fun _ => [zO h0 6 [zi 2, .ref aS, zi ((sv : Nat) : Int), .ref aF, .ref aX, zi ((ln : Nat) : Int), zi ((ta : Nat) : Int), zi sg, zi ((f1 : Nat) : Int), zi ((l1 : Nat) : Int), zi ((f2 : Nat) : Int), zi ((l2 : Nat) : Int)], zAI ct aS 3888 g, zAZ ct aF 2 fz, zAI ct aX 80 (zN tx)]) 0 0 := by
  refine zMet_i (cc := cX7_readLeaf) (maxL := 6) (r := fun _ => 0) (by decide) rfl (Nat.le_of_ble_eq_true rfl) ?_
  intro p e s m below meth c A Q Z hnm hR
  refine z_eqs _ [(0, .ref h0), (1, zi ((r : Nat) : Int))] _ rfl rfl rfl ?_
  refine z_aload_n Z dX7_readLeaf_0 0 rfl ?_
  refine z_iload_n Z dX7_readLeaf_1 1 rfl ?_
  refine z_callSu (rest := [.ref h0]) Z dX7_readLeaf_2 (zc_X7_isReader l D ct (((r : Nat) : Int)) (by first | assumption | omega)) (va_cwS 1 Z.1.2.2.2.2 gX7_readLeaf_X7_isReader rfl rfl rfl (by decide +kernel) ⟨Nat.le_of_ble_eq_true rfl, Nat.le_of_ble_eq_true rfl⟩) rfl (Nat.le_of_ble_eq_true rfl) ⟨Nat.le_of_ble_eq_true rfl, Nat.le_of_ble_eq_true rfl⟩ [false, false, false, false] [zO h0 6 [zi th, .ref aS, zi ((sv : Nat) : Int), .ref aF, .ref aX, zi ((ln : Nat) : Int), zi ((ta : Nat) : Int), zi sg, zi ((f1 : Nat) : Int), zi ((l1 : Nat) : Int), zi ((f2 : Nat) : Int), zi ((l2 : Nat) : Int)], zAI ct aS 3888 g, zAZ ct aF 2 fz, zAI ct aX 80 (zN tx)] [zi (zb (decide (0 ≤ ((r : Nat) : Int) ∧ ((r : Nat) : Int) ≤ 3))), .ref h0] rfl rfl rfl rfl ?_
  refine z_ifb_ne Z 12 dX7_readLeaf_5 (by decide) (fun h5 => ?_) (fun h5 => ?_)
  · have h5 := of_decide_eq_true h5
    refine z_aload_n Z dX7_readLeaf_12 0 rfl ?_
    refine z_iload_n Z dX7_readLeaf_13 1 rfl ?_
    refine z_callVu (rest := [.ref h0]) Z dX7_readLeaf_14 6 0 _ _ rfl rfl rfl (zc_X7_isOpen l D ct (h0) (aS) (aF) (aX) (th) (sg) (sv) (ln) (ta) (f1) (l1) (f2) (l2) (g) (((r : Nat) : Int)) (by first | assumption | omega) (by first | assumption | omega)) (cwV 1 Z.1.2.2.2.2 gX7_readLeaf_X7_isOpen rfl rfl rfl (by decide +kernel) ⟨Nat.le_of_ble_eq_true rfl, Nat.le_of_ble_eq_true rfl⟩) rfl (Nat.le_of_ble_eq_true rfl) ⟨Nat.le_of_ble_eq_true rfl, Nat.le_of_ble_eq_true rfl⟩ [true, true, false, false] [zO h0 6 [zi th, .ref aS, zi ((sv : Nat) : Int), .ref aF, .ref aX, zi ((ln : Nat) : Int), zi ((ta : Nat) : Int), zi sg, zi ((f1 : Nat) : Int), zi ((l1 : Nat) : Int), zi ((f2 : Nat) : Int), zi ((l2 : Nat) : Int)], zAI ct aS 3888 g, zAZ ct aF 2 fz, zAI ct aX 80 (zN tx)] [zi (zb (decide ((0 ≤ ((r : Nat) : Int) ∧ ((r : Nat) : Int) ≤ 3) ∧ g (4 + ((r : Nat) : Int).toNat) ≠ -2))), .ref h0] rfl rfl rfl rfl ?_
    refine z_ifb_ne Z 24 dX7_readLeaf_17 (by decide) (fun h17 => ?_) (fun h17 => ?_)
    · have h17 := of_decide_eq_true h17
      exfalso; first | contradiction | omega
    · have h17 := of_decide_eq_false h17
      refine z_iconst (v := 2) Z dX7_readLeaf_20 rfl ?_
      refine z_goto Z 25 dX7_readLeaf_21 (by decide) ?_
      refine z_callVu (rest := []) Z dX7_readLeaf_25 6 0 _ _ rfl rfl rfl (zc_X7_holds l D ct (h0) (aS) (aF) (aX) (th) (sg) (sv) (ln) (ta) (f1) (l1) (f2) (l2) (2) (by first | assumption | omega)) (cwV 1 Z.1.2.2.2.2 gX7_readLeaf_X7_holds rfl rfl rfl (by decide +kernel) ⟨Nat.le_of_ble_eq_true rfl, Nat.le_of_ble_eq_true rfl⟩) rfl (Nat.le_of_ble_eq_true rfl) ⟨Nat.le_of_ble_eq_true rfl, Nat.le_of_ble_eq_true rfl⟩ [true, false, false, false] [zO h0 6 [zi 2, .ref aS, zi ((sv : Nat) : Int), .ref aF, .ref aX, zi ((ln : Nat) : Int), zi ((ta : Nat) : Int), zi sg, zi ((f1 : Nat) : Int), zi ((l1 : Nat) : Int), zi ((f2 : Nat) : Int), zi ((l2 : Nat) : Int)], zAI ct aS 3888 g, zAZ ct aF 2 fz, zAI ct aX 80 (zN tx)] [zi (zb (decide (2 = 0)))] rfl rfl rfl rfl ?_
      refine z_ifb_ne Z 33 dX7_readLeaf_28 (by decide) (fun h28 => ?_) (fun h28 => ?_)
      · have h28 := of_decide_eq_true h28
        exfalso; first | contradiction | omega
      · have h28 := of_decide_eq_false h28
        refine z_iconst (v := 0) Z dX7_readLeaf_31 rfl ?_
        refine z_eqs [zO h0 6 [zi 2, .ref aS, zi ((sv : Nat) : Int), .ref aF, .ref aX, zi ((ln : Nat) : Int), zi ((ta : Nat) : Int), zi sg, zi ((f1 : Nat) : Int), zi ((l1 : Nat) : Int), zi ((f2 : Nat) : Int), zi ((l2 : Nat) : Int)], zAI ct aS 3888 g, zAZ ct aF 2 fz, zAI ct aX 80 (zN tx)] _ [zi 0] (rfl) rfl (rfl) ?_
        exact hR _ _ () trivial dX7_readLeaf_32
  · have h5 := of_decide_eq_false h5
    exfalso; first | contradiction | omega
theorem zin_X7_readLeaf_X7 : ∀ w ∈ wsX70, w ∈ wsX7_readLeaf := by decide +kernel
theorem zlk_X7_readLeaf_7 : Cond.fieldLink RX7 7 "HashedDirectoryModel" "s" "[I" ∈ wsX7_readLeaf := by decide +kernel
set_option maxHeartbeats 4000000 in
set_option maxRecDepth 100000 in
theorem zc_X7_readLeaf_0 (l : Launch) (D : va_G) (ct : zCT) (h0 : Nat) (aS : Nat) (aF : Nat) (aX : Nat) (th : Int) (sg : Int) (sv : Nat) (ln : Nat) (ta : Nat) (f1 : Nat) (l1 : Nat) (f2 : Nat) (l2 : Nat) (g : Nat → Int) (fz : Nat → Int) (tx : Nat → Nat) (cnt : Nat) (r : Nat) (hcn : g 0 = ((cnt : Nat) : Int)) (hc : cnt ≤ 40) (hg : ∀ k, k < 432 → -2 ≤ g k ∧ g k < 70000) (hhs : ∀ k, k < 40 → 0 ≤ mI g k 1 ∧ mI g k 1 < 64) (ht : ∀ j, j < 80 → tx j < 128) (hln : ln ≤ 80) (hsv : sv ≤ 6) (h2 : 0 ≤ g 2 ∧ g 2 < 50000) (h3 : 0 ≤ g 3 ∧ g 3 < 50000) (h1 : 0 ≤ g 1 ∧ g 1 < 2000) (hr : r < 4) (hop : (0 ≤ ((r : Nat) : Int) ∧ ((r : Nat) : Int) ≤ 3) ∧ g (4 + (((r : Nat) : Int)).toNat) ≠ -2) (hnp : npF (kpG g sv) r cnt = cnt) : zMet l yX7_readLeaf wsX7_readLeaf ({ frames := 3, cells := 0, slots := 0, locals := 65 } : Room) D ct [.ref h0, zi ((r : Nat) : Int)] [zO h0 6 [zi th, .ref aS, zi ((sv : Nat) : Int), .ref aF, .ref aX, zi ((ln : Nat) : Int), zi ((ta : Nat) : Int), zi sg, zi ((f1 : Nat) : Int), zi ((l1 : Nat) : Int), zi ((f2 : Nat) : Int), zi ((l2 : Nat) : Int)], zAI ct aS 3888 g, zAZ ct aF 2 fz, zAI ct aX 80 (zN tx)] (fun _ : Unit => True) (fun _ => some (zi (0))) (fun _ => [zO h0 6 [zi 0, .ref aS, zi ((kpS sv : Nat) : Int), .ref aF, .ref aX, zi ((ln : Nat) : Int), zi ((ta : Nat) : Int), zi sg, zi ((f1 : Nat) : Int), zi ((l1 : Nat) : Int), zi ((f2 : Nat) : Int), zi ((l2 : Nat) : Int)], zAI ct aS 3888 (kpG g sv), zAZ ct aF 2 fz, zAI ct aX 80 (zN tx)]) 0 0 := by
  refine zMet_i (cc := cX7_readLeaf) (maxL := 6) (r := fun _ => 0) (by decide) rfl (Nat.le_of_ble_eq_true rfl) ?_
  intro p e s m below meth c A Q Z hnm hR
  refine z_eqs _ [(0, .ref h0), (1, zi ((r : Nat) : Int))] _ rfl rfl rfl ?_
  refine z_aload_n Z dX7_readLeaf_0 0 rfl ?_
  refine z_iload_n Z dX7_readLeaf_1 1 rfl ?_
  refine z_callSu (rest := [.ref h0]) Z dX7_readLeaf_2 (zc_X7_isReader l D ct (((r : Nat) : Int)) (by first | assumption | omega)) (va_cwS 1 Z.1.2.2.2.2 gX7_readLeaf_X7_isReader rfl rfl rfl (by decide +kernel) ⟨Nat.le_of_ble_eq_true rfl, Nat.le_of_ble_eq_true rfl⟩) rfl (Nat.le_of_ble_eq_true rfl) ⟨Nat.le_of_ble_eq_true rfl, Nat.le_of_ble_eq_true rfl⟩ [false, false, false, false] [zO h0 6 [zi th, .ref aS, zi ((sv : Nat) : Int), .ref aF, .ref aX, zi ((ln : Nat) : Int), zi ((ta : Nat) : Int), zi sg, zi ((f1 : Nat) : Int), zi ((l1 : Nat) : Int), zi ((f2 : Nat) : Int), zi ((l2 : Nat) : Int)], zAI ct aS 3888 g, zAZ ct aF 2 fz, zAI ct aX 80 (zN tx)] [zi (zb (decide (0 ≤ ((r : Nat) : Int) ∧ ((r : Nat) : Int) ≤ 3))), .ref h0] rfl rfl rfl rfl ?_
  refine z_ifb_ne Z 12 dX7_readLeaf_5 (by decide) (fun h5 => ?_) (fun h5 => ?_)
  · have h5 := of_decide_eq_true h5
    refine z_aload_n Z dX7_readLeaf_12 0 rfl ?_
    refine z_iload_n Z dX7_readLeaf_13 1 rfl ?_
    refine z_callVu (rest := [.ref h0]) Z dX7_readLeaf_14 6 0 _ _ rfl rfl rfl (zc_X7_isOpen l D ct (h0) (aS) (aF) (aX) (th) (sg) (sv) (ln) (ta) (f1) (l1) (f2) (l2) (g) (((r : Nat) : Int)) (by first | assumption | omega) (by first | assumption | omega)) (cwV 1 Z.1.2.2.2.2 gX7_readLeaf_X7_isOpen rfl rfl rfl (by decide +kernel) ⟨Nat.le_of_ble_eq_true rfl, Nat.le_of_ble_eq_true rfl⟩) rfl (Nat.le_of_ble_eq_true rfl) ⟨Nat.le_of_ble_eq_true rfl, Nat.le_of_ble_eq_true rfl⟩ [true, true, false, false] [zO h0 6 [zi th, .ref aS, zi ((sv : Nat) : Int), .ref aF, .ref aX, zi ((ln : Nat) : Int), zi ((ta : Nat) : Int), zi sg, zi ((f1 : Nat) : Int), zi ((l1 : Nat) : Int), zi ((f2 : Nat) : Int), zi ((l2 : Nat) : Int)], zAI ct aS 3888 g, zAZ ct aF 2 fz, zAI ct aX 80 (zN tx)] [zi (zb (decide ((0 ≤ ((r : Nat) : Int) ∧ ((r : Nat) : Int) ≤ 3) ∧ g (4 + ((r : Nat) : Int).toNat) ≠ -2))), .ref h0] rfl rfl rfl rfl ?_
    refine z_ifb_ne Z 24 dX7_readLeaf_17 (by decide) (fun h17 => ?_) (fun h17 => ?_)
    · have h17 := of_decide_eq_true h17
      refine z_iconst (v := 0) Z dX7_readLeaf_24 rfl ?_
      refine z_callVu (rest := []) Z dX7_readLeaf_25 6 0 _ _ rfl rfl rfl (zc_X7_holds l D ct (h0) (aS) (aF) (aX) (th) (sg) (sv) (ln) (ta) (f1) (l1) (f2) (l2) (0) (by first | assumption | omega)) (cwV 1 Z.1.2.2.2.2 gX7_readLeaf_X7_holds rfl rfl rfl (by decide +kernel) ⟨Nat.le_of_ble_eq_true rfl, Nat.le_of_ble_eq_true rfl⟩) rfl (Nat.le_of_ble_eq_true rfl) ⟨Nat.le_of_ble_eq_true rfl, Nat.le_of_ble_eq_true rfl⟩ [true, false, false, false] [zO h0 6 [zi 0, .ref aS, zi ((sv : Nat) : Int), .ref aF, .ref aX, zi ((ln : Nat) : Int), zi ((ta : Nat) : Int), zi sg, zi ((f1 : Nat) : Int), zi ((l1 : Nat) : Int), zi ((f2 : Nat) : Int), zi ((l2 : Nat) : Int)], zAI ct aS 3888 g, zAZ ct aF 2 fz, zAI ct aX 80 (zN tx)] [zi (zb (decide (0 = 0)))] rfl rfl rfl rfl ?_
      refine z_ifb_ne Z 33 dX7_readLeaf_28 (by decide) (fun h28 => ?_) (fun h28 => ?_)
      · have h28 := of_decide_eq_true h28
        refine z_aload_n Z dX7_readLeaf_33 0 rfl ?_
        refine z_callVu (rest := []) Z dX7_readLeaf_34 6 0 _ _ rfl rfl rfl (zc_X7_keeps l D ct (h0) (aS) (aF) (aX) (0) (sg) (sv) (ln) (ta) (f1) (l1) (f2) (l2) (g) (by first | assumption | omega)) (cwV 0 Z.1.2.2.2.2 gX7_readLeaf_X7_keeps rfl rfl rfl (by decide +kernel) ⟨Nat.le_of_ble_eq_true rfl, Nat.le_of_ble_eq_true rfl⟩) rfl (Nat.le_of_ble_eq_true rfl) ⟨Nat.le_of_ble_eq_true rfl, Nat.le_of_ble_eq_true rfl⟩ [true, true, false, false] [zO h0 6 [zi 0, .ref aS, zi ((kpS sv : Nat) : Int), .ref aF, .ref aX, zi ((ln : Nat) : Int), zi ((ta : Nat) : Int), zi sg, zi ((f1 : Nat) : Int), zi ((l1 : Nat) : Int), zi ((f2 : Nat) : Int), zi ((l2 : Nat) : Int)], zAI ct aS 3888 (kpG g sv), zAZ ct aF 2 fz, zAI ct aX 80 (zN tx)] [] rfl rfl rfl rfl ?_
        refine z_aload_n Z dX7_readLeaf_37 0 rfl ?_
        refine z_iload_n Z dX7_readLeaf_38 1 rfl ?_
        refine z_callVu (rest := []) Z dX7_readLeaf_39 6 0 _ _ rfl rfl rfl (zc_X7_nextPlace l D ct (h0) (aS) (aF) (aX) (0) (sg) (kpS sv) (ln) (ta) (f1) (l1) (f2) (l2) (kpG g sv) (cnt) (r) (kp_cn hsv hcn) (by first | assumption | omega) (kp_rg hsv hg) (by first | assumption | omega)) (cwV 1 Z.1.2.2.2.2 gX7_readLeaf_X7_nextPlace rfl rfl rfl (by decide +kernel) ⟨Nat.le_of_ble_eq_true rfl, Nat.le_of_ble_eq_true rfl⟩) rfl (Nat.le_of_ble_eq_true rfl) ⟨Nat.le_of_ble_eq_true rfl, Nat.le_of_ble_eq_true rfl⟩ [true, true, false, false] [zO h0 6 [zi 0, .ref aS, zi (((kpS sv) : Nat) : Int), .ref aF, .ref aX, zi ((ln : Nat) : Int), zi ((ta : Nat) : Int), zi sg, zi ((f1 : Nat) : Int), zi ((l1 : Nat) : Int), zi ((f2 : Nat) : Int), zi ((l2 : Nat) : Int)], zAI ct aS 3888 (kpG g sv), zAZ ct aF 2 fz, zAI ct aX 80 (zN tx)] [zi ((npF (kpG g sv) r cnt : Nat) : Int)] rfl rfl rfl rfl ?_
        have hp9 : npF (kpG g sv) r cnt ≤ cnt := fiF_le _ _
        refine z_istore_n Z dX7_readLeaf_42 [(2, zi ((npF (kpG g sv) r cnt : Nat) : Int)), (0, .ref h0), (1, zi ((r : Nat) : Int))] (by decide) rfl ?_
        refine z_iload_n Z dX7_readLeaf_43 0 rfl ?_
        refine z_aload_n Z dX7_readLeaf_44 1 rfl ?_
        refine z_get Z dX7_readLeaf_45 zin_X7_readLeaf_X7 0 1 rfl rfl (by decide) zlk_X7_readLeaf_7 rfl ?_
        refine z_iconst (v := 0) Z dX7_readLeaf_48 rfl ?_
        refine z_iald Z dX7_readLeaf_49 1 (0) rfl (by omega) ⟨by omega, by omega⟩ ?_
        have hk0 := kp_cn hsv hcn
        refine z_icmp_ne Z 55 dX7_readLeaf_50 (by decide) (by omega) (by omega) (fun h50 => ?_) (fun h50 => ?_)
        · exfalso; first | contradiction | omega
        · refine z_iconst (v := 0) Z dX7_readLeaf_53 rfl ?_
          refine z_eqs [zO h0 6 [zi 0, .ref aS, zi ((kpS sv : Nat) : Int), .ref aF, .ref aX, zi ((ln : Nat) : Int), zi ((ta : Nat) : Int), zi sg, zi ((f1 : Nat) : Int), zi ((l1 : Nat) : Int), zi ((f2 : Nat) : Int), zi ((l2 : Nat) : Int)], zAI ct aS 3888 (kpG g sv), zAZ ct aF 2 fz, zAI ct aX 80 (zN tx)] _ [zi 0] (rfl) rfl (rfl) ?_
          exact hR _ _ () trivial dX7_readLeaf_54
      · have h28 := of_decide_eq_false h28
        exfalso; first | contradiction | omega
    · have h17 := of_decide_eq_false h17
      exfalso; first | contradiction | omega
  · have h5 := of_decide_eq_false h5
    exfalso; first | contradiction | omega
set_option maxHeartbeats 4000000 in
set_option maxRecDepth 100000 in
theorem zc_X7_readLeaf_3 (l : Launch) (D : va_G) (ct : zCT) (h0 : Nat) (aS : Nat) (aF : Nat) (aX : Nat) (th : Int) (sg : Int) (sv : Nat) (ln : Nat) (ta : Nat) (f1 : Nat) (l1 : Nat) (f2 : Nat) (l2 : Nat) (g : Nat → Int) (fz : Nat → Int) (tx : Nat → Nat) (cnt : Nat) (r : Nat) (hcn : g 0 = ((cnt : Nat) : Int)) (hc : cnt ≤ 40) (hg : ∀ k, k < 432 → -2 ≤ g k ∧ g k < 70000) (hhs : ∀ k, k < 40 → 0 ≤ mI g k 1 ∧ mI g k 1 < 64) (ht : ∀ j, j < 80 → tx j < 128) (hln : ln ≤ 80) (hsv : sv ≤ 6) (h2 : 0 ≤ g 2 ∧ g 2 < 50000) (h3 : 0 ≤ g 3 ∧ g 3 < 50000) (h1 : 0 ≤ g 1 ∧ g 1 < 2000) (hr : r < 4) (hop : (0 ≤ ((r : Nat) : Int) ∧ ((r : Nat) : Int) ≤ 3) ∧ g (4 + (((r : Nat) : Int)).toNat) ≠ -2) (hnp : npF (kpG g sv) r cnt ≠ cnt) : zMet l yX7_readLeaf wsX7_readLeaf ({ frames := 3, cells := 0, slots := 0, locals := 65 } : Room) D ct [.ref h0, zi ((r : Nat) : Int)] [zO h0 6 [zi th, .ref aS, zi ((sv : Nat) : Int), .ref aF, .ref aX, zi ((ln : Nat) : Int), zi ((ta : Nat) : Int), zi sg, zi ((f1 : Nat) : Int), zi ((l1 : Nat) : Int), zi ((f2 : Nat) : Int), zi ((l2 : Nat) : Int)], zAI ct aS 3888 g, zAZ ct aF 2 fz, zAI ct aX 80 (zN tx)] (fun _ : Unit => True) (fun _ => some (zi (((rlF (rlS (kpG g sv) (mI (kpG g sv) (npF (kpG g sv) r cnt) 1).toNat (6 - dpF (kpG g sv) (mI (kpG g sv) (npF (kpG g sv) r cnt) 1).toNat 6 0)) (cnt - npF (kpG g sv) r cnt) (npF (kpG g sv) r cnt) - npF (kpG g sv) r cnt : Nat) : Int)))) (fun _ => [zO h0 6 [zi 0, .ref aS, zi ((kpS sv : Nat) : Int), .ref aF, .ref aX, zi ((ln : Nat) : Int), zi ((ta : Nat) : Int), zi sg, zi ((f1 : Nat) : Int), zi ((l1 : Nat) : Int), zi ((f2 : Nat) : Int), zi ((l2 : Nat) : Int)], zAI ct aS 3888 (rlG (kpG g sv) r (npF (kpG g sv) r cnt) (rlF (rlS (kpG g sv) (mI (kpG g sv) (npF (kpG g sv) r cnt) 1).toNat (6 - dpF (kpG g sv) (mI (kpG g sv) (npF (kpG g sv) r cnt) 1).toNat 6 0)) (cnt - npF (kpG g sv) r cnt) (npF (kpG g sv) r cnt))), zAZ ct aF 2 fz, zAI ct aX 80 (zN tx)]) 0 0 := by
  refine zMet_i (cc := cX7_readLeaf) (maxL := 6) (r := fun _ => ((rlF (rlS (kpG g sv) (mI (kpG g sv) (npF (kpG g sv) r cnt) 1).toNat (6 - dpF (kpG g sv) (mI (kpG g sv) (npF (kpG g sv) r cnt) 1).toNat 6 0)) (cnt - npF (kpG g sv) r cnt) (npF (kpG g sv) r cnt) - npF (kpG g sv) r cnt : Nat) : Int)) (by decide) rfl (Nat.le_of_ble_eq_true rfl) ?_
  intro p e s m below meth c A Q Z hnm hR
  refine z_eqs _ [(0, .ref h0), (1, zi ((r : Nat) : Int))] _ rfl rfl rfl ?_
  refine z_aload_n Z dX7_readLeaf_0 0 rfl ?_
  refine z_iload_n Z dX7_readLeaf_1 1 rfl ?_
  refine z_callSu (rest := [.ref h0]) Z dX7_readLeaf_2 (zc_X7_isReader l D ct (((r : Nat) : Int)) (by first | assumption | omega)) (va_cwS 1 Z.1.2.2.2.2 gX7_readLeaf_X7_isReader rfl rfl rfl (by decide +kernel) ⟨Nat.le_of_ble_eq_true rfl, Nat.le_of_ble_eq_true rfl⟩) rfl (Nat.le_of_ble_eq_true rfl) ⟨Nat.le_of_ble_eq_true rfl, Nat.le_of_ble_eq_true rfl⟩ [false, false, false, false] [zO h0 6 [zi th, .ref aS, zi ((sv : Nat) : Int), .ref aF, .ref aX, zi ((ln : Nat) : Int), zi ((ta : Nat) : Int), zi sg, zi ((f1 : Nat) : Int), zi ((l1 : Nat) : Int), zi ((f2 : Nat) : Int), zi ((l2 : Nat) : Int)], zAI ct aS 3888 g, zAZ ct aF 2 fz, zAI ct aX 80 (zN tx)] [zi (zb (decide (0 ≤ ((r : Nat) : Int) ∧ ((r : Nat) : Int) ≤ 3))), .ref h0] rfl rfl rfl rfl ?_
  refine z_ifb_ne Z 12 dX7_readLeaf_5 (by decide) (fun h5 => ?_) (fun h5 => ?_)
  · have h5 := of_decide_eq_true h5
    refine z_aload_n Z dX7_readLeaf_12 0 rfl ?_
    refine z_iload_n Z dX7_readLeaf_13 1 rfl ?_
    refine z_callVu (rest := [.ref h0]) Z dX7_readLeaf_14 6 0 _ _ rfl rfl rfl (zc_X7_isOpen l D ct (h0) (aS) (aF) (aX) (th) (sg) (sv) (ln) (ta) (f1) (l1) (f2) (l2) (g) (((r : Nat) : Int)) (by first | assumption | omega) (by first | assumption | omega)) (cwV 1 Z.1.2.2.2.2 gX7_readLeaf_X7_isOpen rfl rfl rfl (by decide +kernel) ⟨Nat.le_of_ble_eq_true rfl, Nat.le_of_ble_eq_true rfl⟩) rfl (Nat.le_of_ble_eq_true rfl) ⟨Nat.le_of_ble_eq_true rfl, Nat.le_of_ble_eq_true rfl⟩ [true, true, false, false] [zO h0 6 [zi th, .ref aS, zi ((sv : Nat) : Int), .ref aF, .ref aX, zi ((ln : Nat) : Int), zi ((ta : Nat) : Int), zi sg, zi ((f1 : Nat) : Int), zi ((l1 : Nat) : Int), zi ((f2 : Nat) : Int), zi ((l2 : Nat) : Int)], zAI ct aS 3888 g, zAZ ct aF 2 fz, zAI ct aX 80 (zN tx)] [zi (zb (decide ((0 ≤ ((r : Nat) : Int) ∧ ((r : Nat) : Int) ≤ 3) ∧ g (4 + ((r : Nat) : Int).toNat) ≠ -2))), .ref h0] rfl rfl rfl rfl ?_
    refine z_ifb_ne Z 24 dX7_readLeaf_17 (by decide) (fun h17 => ?_) (fun h17 => ?_)
    · have h17 := of_decide_eq_true h17
      refine z_iconst (v := 0) Z dX7_readLeaf_24 rfl ?_
      refine z_callVu (rest := []) Z dX7_readLeaf_25 6 0 _ _ rfl rfl rfl (zc_X7_holds l D ct (h0) (aS) (aF) (aX) (th) (sg) (sv) (ln) (ta) (f1) (l1) (f2) (l2) (0) (by first | assumption | omega)) (cwV 1 Z.1.2.2.2.2 gX7_readLeaf_X7_holds rfl rfl rfl (by decide +kernel) ⟨Nat.le_of_ble_eq_true rfl, Nat.le_of_ble_eq_true rfl⟩) rfl (Nat.le_of_ble_eq_true rfl) ⟨Nat.le_of_ble_eq_true rfl, Nat.le_of_ble_eq_true rfl⟩ [true, false, false, false] [zO h0 6 [zi 0, .ref aS, zi ((sv : Nat) : Int), .ref aF, .ref aX, zi ((ln : Nat) : Int), zi ((ta : Nat) : Int), zi sg, zi ((f1 : Nat) : Int), zi ((l1 : Nat) : Int), zi ((f2 : Nat) : Int), zi ((l2 : Nat) : Int)], zAI ct aS 3888 g, zAZ ct aF 2 fz, zAI ct aX 80 (zN tx)] [zi (zb (decide (0 = 0)))] rfl rfl rfl rfl ?_
      refine z_ifb_ne Z 33 dX7_readLeaf_28 (by decide) (fun h28 => ?_) (fun h28 => ?_)
      · have h28 := of_decide_eq_true h28
        refine z_aload_n Z dX7_readLeaf_33 0 rfl ?_
        refine z_callVu (rest := []) Z dX7_readLeaf_34 6 0 _ _ rfl rfl rfl (zc_X7_keeps l D ct (h0) (aS) (aF) (aX) (0) (sg) (sv) (ln) (ta) (f1) (l1) (f2) (l2) (g) (by first | assumption | omega)) (cwV 0 Z.1.2.2.2.2 gX7_readLeaf_X7_keeps rfl rfl rfl (by decide +kernel) ⟨Nat.le_of_ble_eq_true rfl, Nat.le_of_ble_eq_true rfl⟩) rfl (Nat.le_of_ble_eq_true rfl) ⟨Nat.le_of_ble_eq_true rfl, Nat.le_of_ble_eq_true rfl⟩ [true, true, false, false] [zO h0 6 [zi 0, .ref aS, zi ((kpS sv : Nat) : Int), .ref aF, .ref aX, zi ((ln : Nat) : Int), zi ((ta : Nat) : Int), zi sg, zi ((f1 : Nat) : Int), zi ((l1 : Nat) : Int), zi ((f2 : Nat) : Int), zi ((l2 : Nat) : Int)], zAI ct aS 3888 (kpG g sv), zAZ ct aF 2 fz, zAI ct aX 80 (zN tx)] [] rfl rfl rfl rfl ?_
        refine z_aload_n Z dX7_readLeaf_37 0 rfl ?_
        refine z_iload_n Z dX7_readLeaf_38 1 rfl ?_
        refine z_callVu (rest := []) Z dX7_readLeaf_39 6 0 _ _ rfl rfl rfl (zc_X7_nextPlace l D ct (h0) (aS) (aF) (aX) (0) (sg) (kpS sv) (ln) (ta) (f1) (l1) (f2) (l2) (kpG g sv) (cnt) (r) (kp_cn hsv hcn) (by first | assumption | omega) (kp_rg hsv hg) (by first | assumption | omega)) (cwV 1 Z.1.2.2.2.2 gX7_readLeaf_X7_nextPlace rfl rfl rfl (by decide +kernel) ⟨Nat.le_of_ble_eq_true rfl, Nat.le_of_ble_eq_true rfl⟩) rfl (Nat.le_of_ble_eq_true rfl) ⟨Nat.le_of_ble_eq_true rfl, Nat.le_of_ble_eq_true rfl⟩ [true, true, false, false] [zO h0 6 [zi 0, .ref aS, zi (((kpS sv) : Nat) : Int), .ref aF, .ref aX, zi ((ln : Nat) : Int), zi ((ta : Nat) : Int), zi sg, zi ((f1 : Nat) : Int), zi ((l1 : Nat) : Int), zi ((f2 : Nat) : Int), zi ((l2 : Nat) : Int)], zAI ct aS 3888 (kpG g sv), zAZ ct aF 2 fz, zAI ct aX 80 (zN tx)] [zi ((npF (kpG g sv) r cnt : Nat) : Int)] rfl rfl rfl rfl ?_
        have hp9 : npF (kpG g sv) r cnt ≤ cnt := fiF_le _ _
        refine z_istore_n Z dX7_readLeaf_42 [(2, zi ((npF (kpG g sv) r cnt : Nat) : Int)), (0, .ref h0), (1, zi ((r : Nat) : Int))] (by decide) rfl ?_
        refine z_iload_n Z dX7_readLeaf_43 0 rfl ?_
        refine z_aload_n Z dX7_readLeaf_44 1 rfl ?_
        refine z_get Z dX7_readLeaf_45 zin_X7_readLeaf_X7 0 1 rfl rfl (by decide) zlk_X7_readLeaf_7 rfl ?_
        refine z_iconst (v := 0) Z dX7_readLeaf_48 rfl ?_
        refine z_iald Z dX7_readLeaf_49 1 (0) rfl (by omega) ⟨by omega, by omega⟩ ?_
        have hk0 := kp_cn hsv hcn
        refine z_icmp_ne Z 55 dX7_readLeaf_50 (by decide) (by omega) (by omega) (fun h50 => ?_) (fun h50 => ?_)
        · have hks := kp_hs hsv hhs (npF (kpG g sv) r cnt) (by omega)
          have hkr := kp_rg hsv hg
          have hpe : npF (kpG g sv) r cnt < cnt := by omega
          refine z_aload_n Z dX7_readLeaf_55 1 rfl ?_
          refine z_iload_n Z dX7_readLeaf_56 0 rfl ?_
          refine z_iconst (v := 1) Z dX7_readLeaf_57 rfl ?_
          refine z_eqs [zO h0 6 [zi 0, .ref aS, zi ((kpS sv : Nat) : Int), .ref aF, .ref aX, zi ((ln : Nat) : Int), zi ((ta : Nat) : Int), zi sg, zi ((f1 : Nat) : Int), zi ((l1 : Nat) : Int), zi ((f2 : Nat) : Int), zi ((l2 : Nat) : Int)], zAI ct aS 3888 (kpG g sv), zAZ ct aF 2 fz, zAI ct aX 80 (zN tx)] _ [zi 1, zi ((npF (kpG g sv) r cnt : Nat) : Int), .ref h0] (by rw [show (((kpS sv) : Nat) : Int) = ((kpS sv : Nat) : Int) from by omega]) rfl (rfl) ?_
          refine z_callVu (rest := []) Z dX7_readLeaf_58 6 0 _ _ rfl rfl rfl (zc_X7_of l D ct (h0) (aS) (aF) (aX) (0) (sg) (kpS sv) (ln) (ta) (f1) (l1) (f2) (l2) ((kpG g sv)) (npF (kpG g sv) r cnt) (1) (by first | assumption | omega) (by first | assumption | omega)) (cwV 2 Z.1.2.2.2.2 gX7_readLeaf_X7_of rfl rfl rfl (by decide +kernel) ⟨Nat.le_of_ble_eq_true rfl, Nat.le_of_ble_eq_true rfl⟩) rfl (Nat.le_of_ble_eq_true rfl) ⟨Nat.le_of_ble_eq_true rfl, Nat.le_of_ble_eq_true rfl⟩ [true, true, false, false] [zO h0 6 [zi 0, .ref aS, zi (((kpS sv) : Nat) : Int), .ref aF, .ref aX, zi ((ln : Nat) : Int), zi ((ta : Nat) : Int), zi sg, zi ((f1 : Nat) : Int), zi ((l1 : Nat) : Int), zi ((f2 : Nat) : Int), zi ((l2 : Nat) : Int)], zAI ct aS 3888 (kpG g sv), zAZ ct aF 2 fz, zAI ct aX 80 (zN tx)] [zi (mI (kpG g sv) (npF (kpG g sv) r cnt) 1)] rfl rfl rfl rfl ?_
          refine z_top (y := (((mI (kpG g sv) (npF (kpG g sv) r cnt) 1).toNat : Nat) : Int)) (by omega) ?_
          refine z_istore_n Z dX7_readLeaf_61 [(3, zi (((mI (kpG g sv) (npF (kpG g sv) r cnt) 1).toNat : Nat) : Int)), (2, zi ((npF (kpG g sv) r cnt : Nat) : Int)), (0, .ref h0), (1, zi ((r : Nat) : Int))] (by decide) rfl ?_
          refine z_bipush (v := 6) Z dX7_readLeaf_62 (by decide +kernel) ?_
          refine z_aload_n Z dX7_readLeaf_64 2 rfl ?_
          refine z_iload_n Z dX7_readLeaf_65 0 rfl ?_
          refine z_eqs [zO h0 6 [zi 0, .ref aS, zi ((kpS sv : Nat) : Int), .ref aF, .ref aX, zi ((ln : Nat) : Int), zi ((ta : Nat) : Int), zi sg, zi ((f1 : Nat) : Int), zi ((l1 : Nat) : Int), zi ((f2 : Nat) : Int), zi ((l2 : Nat) : Int)], zAI ct aS 3888 (kpG g sv), zAZ ct aF 2 fz, zAI ct aX 80 (zN tx)] _ [zi (((mI (kpG g sv) (npF (kpG g sv) r cnt) 1).toNat : Nat) : Int), .ref h0, zi 6] (by rw [show (((kpS sv) : Nat) : Int) = ((kpS sv : Nat) : Int) from by omega]) rfl (rfl) ?_
          refine z_callVu (rest := [zi 6]) Z dX7_readLeaf_66 6 0 _ _ rfl rfl rfl (zc_X7_depthAt l D ct (h0) (aS) (aF) (aX) (0) (sg) (kpS sv) (ln) (ta) (f1) (l1) (f2) (l2) ((kpG g sv)) ((mI (kpG g sv) (npF (kpG g sv) r cnt) 1).toNat) (kp_rg hsv hg) (by first | assumption | omega)) (cwV 1 Z.1.2.2.2.2 gX7_readLeaf_X7_depthAt rfl rfl rfl (by decide +kernel) ⟨Nat.le_of_ble_eq_true rfl, Nat.le_of_ble_eq_true rfl⟩) rfl (Nat.le_of_ble_eq_true rfl) ⟨Nat.le_of_ble_eq_true rfl, Nat.le_of_ble_eq_true rfl⟩ [true, true, false, false] [zO h0 6 [zi 0, .ref aS, zi (((kpS sv) : Nat) : Int), .ref aF, .ref aX, zi ((ln : Nat) : Int), zi ((ta : Nat) : Int), zi sg, zi ((f1 : Nat) : Int), zi ((l1 : Nat) : Int), zi ((f2 : Nat) : Int), zi ((l2 : Nat) : Int)], zAI ct aS 3888 (kpG g sv), zAZ ct aF 2 fz, zAI ct aX 80 (zN tx)] [zi ((dpF (kpG g sv) ((mI (kpG g sv) (npF (kpG g sv) r cnt) 1).toNat) 6 0 : Nat) : Int), zi 6] rfl rfl rfl rfl ?_
          have hd9 := dpF_le (kpG g sv) (mI (kpG g sv) (npF (kpG g sv) r cnt) 1).toNat 6 0
          refine z_isub Z dX7_readLeaf_69 ?_
          refine z_top (y := ((6 - (dpF (kpG g sv) ((mI (kpG g sv) (npF (kpG g sv) r cnt) 1).toNat) 6 0) : Nat) : Int)) (by omega) ?_
          refine z_istore Z dX7_readLeaf_70 [(4, zi ((6 - (dpF (kpG g sv) ((mI (kpG g sv) (npF (kpG g sv) r cnt) 1).toNat) 6 0) : Nat) : Int)), (3, zi (((mI (kpG g sv) (npF (kpG g sv) r cnt) 1).toNat : Nat) : Int)), (2, zi ((npF (kpG g sv) r cnt : Nat) : Int)), (0, .ref h0), (1, zi ((r : Nat) : Int))] (by decide) rfl ?_
          refine z_iload_n Z dX7_readLeaf_72 2 rfl ?_
          refine z_istore Z dX7_readLeaf_73 [(5, zi ((npF (kpG g sv) r cnt : Nat) : Int)), (4, zi ((6 - (dpF (kpG g sv) ((mI (kpG g sv) (npF (kpG g sv) r cnt) 1).toNat) 6 0) : Nat) : Int)), (3, zi (((mI (kpG g sv) (npF (kpG g sv) r cnt) 1).toNat : Nat) : Int)), (2, zi ((npF (kpG g sv) r cnt : Nat) : Int)), (0, .ref h0), (1, zi ((r : Nat) : Int))] (by decide) rfl ?_
          refine z_lsub [4, 5, 3, 2, 1, 0] [(0, .ref h0), (1, zi ((r : Nat) : Int)), (2, zi ((npF (kpG g sv) r cnt : Nat) : Int)), (3, zi (((mI (kpG g sv) (npF (kpG g sv) r cnt) 1).toNat : Nat) : Int)), (4, zi ((6 - (dpF (kpG g sv) ((mI (kpG g sv) (npF (kpG g sv) r cnt) 1).toNat) 6 0) : Nat) : Int)), (5, zi ((npF (kpG g sv) r cnt : Nat) : Int))] rfl ?_
          have LOOP75 : ∀ (N0 : Nat) (i : Nat) (x5 : Int) (y1g : Nat → Int), cnt + 1 - i < N0 → x5 = ((i : Nat) : Int) → y1g = rlG (kpG g sv) r (npF (kpG g sv) r cnt) i → (npF (kpG g sv) r cnt ≤ i) → (i ≤ cnt) → (rlF (rlS (kpG g sv) (mI (kpG g sv) (npF (kpG g sv) r cnt) 1).toNat (6 - dpF (kpG g sv) (mI (kpG g sv) (npF (kpG g sv) r cnt) 1).toNat 6 0)) (cnt - i) i = rlF (rlS (kpG g sv) (mI (kpG g sv) (npF (kpG g sv) r cnt) 1).toNat (6 - dpF (kpG g sv) (mI (kpG g sv) (npF (kpG g sv) r cnt) 1).toNat 6 0)) (cnt - npF (kpG g sv) r cnt) (npF (kpG g sv) r cnt)) → zW p l e ({ frames := 3, cells := 0, slots := 0, locals := 65 } : Room) s m ([.ref h0, zi ((r : Nat) : Int)] : List Value).toArray below meth c D A 6 Q 0 0 [zO h0 6 [zi 0, .ref aS, zi (((kpS sv) : Nat) : Int), .ref aF, .ref aX, zi ((ln : Nat) : Int), zi ((ta : Nat) : Int), zi sg, zi ((f1 : Nat) : Int), zi ((l1 : Nat) : Int), zi ((f2 : Nat) : Int), zi ((l2 : Nat) : Int)], zAI ct aS 3888 y1g, zAZ ct aF 2 fz, zAI ct aX 80 (zN tx)] [(0, .ref h0), (1, zi ((r : Nat) : Int)), (2, zi ((npF (kpG g sv) r cnt : Nat) : Int)), (3, zi (((mI (kpG g sv) (npF (kpG g sv) r cnt) 1).toNat : Nat) : Int)), (4, zi ((6 - (dpF (kpG g sv) ((mI (kpG g sv) (npF (kpG g sv) r cnt) 1).toNat) 6 0) : Nat) : Int)), (5, zi x5)] 75 [] := by
            intro N0
            induction N0 with
            | zero => intro i x5 y1g hm0; exact absurd hm0 (Nat.not_lt_zero _)
            | succ N0 ih0 =>
              intro i x5 y1g hm0 ex5 ey1g hi hi2 he
              subst ex5
              subst ey1g
              refine z_iload Z dX7_readLeaf_75 5 rfl ?_
              refine z_aload_n Z dX7_readLeaf_77 0 rfl ?_
              refine z_get Z dX7_readLeaf_78 zin_X7_readLeaf_X7 0 1 rfl rfl (by decide) zlk_X7_readLeaf_7 rfl ?_
              refine z_iconst (v := 0) Z dX7_readLeaf_81 rfl ?_
              refine z_iald Z dX7_readLeaf_82 1 (0) rfl (by omega) ⟨by omega, by omega⟩ ?_
              refine z_top (y := ((cnt : Nat) : Int)) ((rlG_0 hk0).symm) ?_
              refine z_icmp_ge Z 123 dX7_readLeaf_83 (by decide) (by omega) (by omega) (fun h83 => ?_) (fun h83 => ?_)
              · have hz9 : rlF (rlS (kpG g sv) (mI (kpG g sv) (npF (kpG g sv) r cnt) 1).toNat (6 - dpF (kpG g sv) (mI (kpG g sv) (npF (kpG g sv) r cnt) 1).toNat 6 0)) (cnt - npF (kpG g sv) r cnt) (npF (kpG g sv) r cnt) = i := by rw [← he, show cnt - i = 0 from by omega]; rfl
                refine z_iload Z dX7_readLeaf_123 5 rfl ?_
                refine z_iload_n Z dX7_readLeaf_125 2 rfl ?_
                refine z_isub Z dX7_readLeaf_126 ?_
                refine z_top (y := ((i - (npF (kpG g sv) r cnt) : Nat) : Int)) (by omega) ?_
                refine z_eqs [zO h0 6 [zi 0, .ref aS, zi ((kpS sv : Nat) : Int), .ref aF, .ref aX, zi ((ln : Nat) : Int), zi ((ta : Nat) : Int), zi sg, zi ((f1 : Nat) : Int), zi ((l1 : Nat) : Int), zi ((f2 : Nat) : Int), zi ((l2 : Nat) : Int)], zAI ct aS 3888 (rlG (kpG g sv) r (npF (kpG g sv) r cnt) (rlF (rlS (kpG g sv) (mI (kpG g sv) (npF (kpG g sv) r cnt) 1).toNat (6 - dpF (kpG g sv) (mI (kpG g sv) (npF (kpG g sv) r cnt) 1).toNat 6 0)) (cnt - npF (kpG g sv) r cnt) (npF (kpG g sv) r cnt))), zAZ ct aF 2 fz, zAI ct aX 80 (zN tx)] _ [zi ((rlF (rlS (kpG g sv) (mI (kpG g sv) (npF (kpG g sv) r cnt) 1).toNat (6 - dpF (kpG g sv) (mI (kpG g sv) (npF (kpG g sv) r cnt) 1).toNat 6 0)) (cnt - npF (kpG g sv) r cnt) (npF (kpG g sv) r cnt) - npF (kpG g sv) r cnt : Nat) : Int)] (by rw [hz9]) rfl (congrArg (fun z => [zi z]) (by rw [hz9])) ?_
                exact hR _ _ () trivial dX7_readLeaf_127
              · refine z_aload_n Z dX7_readLeaf_86 0 rfl ?_
                refine z_iload Z dX7_readLeaf_87 5 rfl ?_
                refine z_iconst (v := 1) Z dX7_readLeaf_89 rfl ?_
                refine z_eqs [zO h0 6 [zi 0, .ref aS, zi ((kpS sv : Nat) : Int), .ref aF, .ref aX, zi ((ln : Nat) : Int), zi ((ta : Nat) : Int), zi sg, zi ((f1 : Nat) : Int), zi ((l1 : Nat) : Int), zi ((f2 : Nat) : Int), zi ((l2 : Nat) : Int)], zAI ct aS 3888 (rlG (kpG g sv) r (npF (kpG g sv) r cnt) i), zAZ ct aF 2 fz, zAI ct aX 80 (zN tx)] _ [zi 1, zi ((i : Nat) : Int), .ref h0] (by rw [show (((kpS sv) : Nat) : Int) = ((kpS sv : Nat) : Int) from by omega]) rfl (rfl) ?_
                refine z_callVu (rest := []) Z dX7_readLeaf_90 6 0 _ _ rfl rfl rfl (zc_X7_of l D ct (h0) (aS) (aF) (aX) (0) (sg) (kpS sv) (ln) (ta) (f1) (l1) (f2) (l2) (rlG (kpG g sv) r (npF (kpG g sv) r cnt) i) (i) (1) (by first | assumption | omega) (by first | assumption | omega)) (cwV 2 Z.1.2.2.2.2 gX7_readLeaf_X7_of rfl rfl rfl (by decide +kernel) ⟨Nat.le_of_ble_eq_true rfl, Nat.le_of_ble_eq_true rfl⟩) rfl (Nat.le_of_ble_eq_true rfl) ⟨Nat.le_of_ble_eq_true rfl, Nat.le_of_ble_eq_true rfl⟩ [true, true, false, false] [zO h0 6 [zi 0, .ref aS, zi (((kpS sv) : Nat) : Int), .ref aF, .ref aX, zi ((ln : Nat) : Int), zi ((ta : Nat) : Int), zi sg, zi ((f1 : Nat) : Int), zi ((l1 : Nat) : Int), zi ((f2 : Nat) : Int), zi ((l2 : Nat) : Int)], zAI ct aS 3888 (rlG (kpG g sv) r (npF (kpG g sv) r cnt) i), zAZ ct aF 2 fz, zAI ct aX 80 (zN tx)] [zi (mI (rlG (kpG g sv) r (npF (kpG g sv) r cnt) i) i 1)] rfl rfl rfl rfl ?_
                refine z_top (y := (mI (kpG g sv) i 1)) ((rlG_I (by omega)).symm) ?_
                refine z_iload Z dX7_readLeaf_93 4 rfl ?_
                have hs8 := kp_hs hsv hhs i (by omega)
                have ht9 : qF (mI (kpG g sv) i 1).toNat (6 - dpF (kpG g sv) (mI (kpG g sv) (npF (kpG g sv) r cnt) 1).toNat 6 0) ≤ (mI (kpG g sv) i 1).toNat := Nat.div_le_self _ _
                have hu9 : qF (mI (kpG g sv) (npF (kpG g sv) r cnt) 1).toNat (6 - dpF (kpG g sv) (mI (kpG g sv) (npF (kpG g sv) r cnt) 1).toNat 6 0) ≤ (mI (kpG g sv) (npF (kpG g sv) r cnt) 1).toNat := Nat.div_le_self _ _
                refine z_ishr (v := ((qF (mI (kpG g sv) i 1).toNat (6 - dpF (kpG g sv) (mI (kpG g sv) (npF (kpG g sv) r cnt) 1).toNat 6 0) : Nat) : Int)) Z dX7_readLeaf_95 (zq_shrI (by omega) (by omega) (by omega)) ?_
                refine z_iload_n Z dX7_readLeaf_96 3 rfl ?_
                refine z_iload Z dX7_readLeaf_97 4 rfl ?_
                refine z_ishr (v := ((qF (mI (kpG g sv) (npF (kpG g sv) r cnt) 1).toNat (6 - dpF (kpG g sv) (mI (kpG g sv) (npF (kpG g sv) r cnt) 1).toNat 6 0) : Nat) : Int)) Z dX7_readLeaf_99 (zq_shr (by omega) (by omega)) ?_
                refine z_icmp_ne Z 123 dX7_readLeaf_100 (by decide) (by omega) (by omega) (fun h100 => ?_) (fun h100 => ?_)
                · have hz9 : rlF (rlS (kpG g sv) (mI (kpG g sv) (npF (kpG g sv) r cnt) 1).toNat (6 - dpF (kpG g sv) (mI (kpG g sv) (npF (kpG g sv) r cnt) 1).toNat 6 0)) (cnt - npF (kpG g sv) r cnt) (npF (kpG g sv) r cnt) = i := by rw [← he]; exact rlF_stop (decide_eq_false (by omega))
                  refine z_iload Z dX7_readLeaf_123 5 rfl ?_
                  refine z_iload_n Z dX7_readLeaf_125 2 rfl ?_
                  refine z_isub Z dX7_readLeaf_126 ?_
                  refine z_top (y := ((i - (npF (kpG g sv) r cnt) : Nat) : Int)) (by omega) ?_
                  refine z_eqs [zO h0 6 [zi 0, .ref aS, zi ((kpS sv : Nat) : Int), .ref aF, .ref aX, zi ((ln : Nat) : Int), zi ((ta : Nat) : Int), zi sg, zi ((f1 : Nat) : Int), zi ((l1 : Nat) : Int), zi ((f2 : Nat) : Int), zi ((l2 : Nat) : Int)], zAI ct aS 3888 (rlG (kpG g sv) r (npF (kpG g sv) r cnt) (rlF (rlS (kpG g sv) (mI (kpG g sv) (npF (kpG g sv) r cnt) 1).toNat (6 - dpF (kpG g sv) (mI (kpG g sv) (npF (kpG g sv) r cnt) 1).toNat 6 0)) (cnt - npF (kpG g sv) r cnt) (npF (kpG g sv) r cnt))), zAZ ct aF 2 fz, zAI ct aX 80 (zN tx)] _ [zi ((rlF (rlS (kpG g sv) (mI (kpG g sv) (npF (kpG g sv) r cnt) 1).toNat (6 - dpF (kpG g sv) (mI (kpG g sv) (npF (kpG g sv) r cnt) 1).toNat 6 0)) (cnt - npF (kpG g sv) r cnt) (npF (kpG g sv) r cnt) - npF (kpG g sv) r cnt : Nat) : Int)] (by rw [hz9]) rfl (congrArg (fun z => [zi z]) (by rw [hz9])) ?_
                  exact hR _ _ () trivial dX7_readLeaf_127
                · refine z_aload_n Z dX7_readLeaf_103 0 rfl ?_
                  refine z_get Z dX7_readLeaf_104 zin_X7_readLeaf_X7 0 1 rfl rfl (by decide) zlk_X7_readLeaf_7 rfl ?_
                  refine z_iconst (v := 4) Z dX7_readLeaf_107 rfl ?_
                  refine z_iload_n Z dX7_readLeaf_108 1 rfl ?_
                  refine z_iadd Z dX7_readLeaf_109 ?_
                  refine z_top (y := ((4 + r : Nat) : Int)) (by omega) ?_
                  refine z_aload_n Z dX7_readLeaf_110 0 rfl ?_
                  refine z_iload Z dX7_readLeaf_111 5 rfl ?_
                  refine z_eqs [zO h0 6 [zi 0, .ref aS, zi ((kpS sv : Nat) : Int), .ref aF, .ref aX, zi ((ln : Nat) : Int), zi ((ta : Nat) : Int), zi sg, zi ((f1 : Nat) : Int), zi ((l1 : Nat) : Int), zi ((f2 : Nat) : Int), zi ((l2 : Nat) : Int)], zAI ct aS 3888 (rlG (kpG g sv) r (npF (kpG g sv) r cnt) i), zAZ ct aF 2 fz, zAI ct aX 80 (zN tx)] _ [zi ((i : Nat) : Int), .ref h0, zi ((4 + r : Nat) : Int), .ref aS] (by rw [show (((kpS sv) : Nat) : Int) = ((kpS sv : Nat) : Int) from by omega]) rfl (rfl) ?_
                  refine z_callVu (rest := [zi ((4 + r : Nat) : Int), .ref aS]) Z dX7_readLeaf_113 6 0 _ _ rfl rfl rfl (zc_X7_keyAt l D ct (h0) (aS) (aF) (aX) (0) (sg) (kpS sv) (ln) (ta) (f1) (l1) (f2) (l2) ((rlG (kpG g sv) r (npF (kpG g sv) r cnt) i)) (i) (by first | assumption | omega)) (cwV 1 Z.1.2.2.2.2 gX7_readLeaf_X7_keyAt rfl rfl rfl (by decide +kernel) ⟨Nat.le_of_ble_eq_true rfl, Nat.le_of_ble_eq_true rfl⟩) rfl (Nat.le_of_ble_eq_true rfl) ⟨Nat.le_of_ble_eq_true rfl, Nat.le_of_ble_eq_true rfl⟩ [true, true, false, false] [zO h0 6 [zi 0, .ref aS, zi (((kpS sv) : Nat) : Int), .ref aF, .ref aX, zi ((ln : Nat) : Int), zi ((ta : Nat) : Int), zi sg, zi ((f1 : Nat) : Int), zi ((l1 : Nat) : Int), zi ((f2 : Nat) : Int), zi ((l2 : Nat) : Int)], zAI ct aS 3888 (rlG (kpG g sv) r (npF (kpG g sv) r cnt) i), zAZ ct aF 2 fz, zAI ct aX 80 (zN tx)] [zi (mK (rlG (kpG g sv) r (npF (kpG g sv) r cnt) i) i), zi ((4 + r : Nat) : Int), .ref aS] rfl rfl rfl rfl ?_
                  refine z_top (y := (mK (kpG g sv) i)) ((rlG_K (by omega)).symm) ?_
                  refine z_iast Z dX7_readLeaf_116 1 (4 + r) [zO h0 6 [zi 0, .ref aS, zi (((kpS sv) : Nat) : Int), .ref aF, .ref aX, zi ((ln : Nat) : Int), zi ((ta : Nat) : Int), zi sg, zi ((f1 : Nat) : Int), zi ((l1 : Nat) : Int), zi ((f2 : Nat) : Int), zi ((l2 : Nat) : Int)], zAI ct aS 3888 (zU (rlG (kpG g sv) r (npF (kpG g sv) r cnt) i) (4 + r) (mK (kpG g sv) i)), zAZ ct aF 2 fz, zAI ct aX 80 (zN tx)] rfl (rfl) ⟨by omega, by omega⟩ rfl ?_
                  refine z_iinc (v := ((i + 1 : Nat) : Int)) Z dX7_readLeaf_117 5 [(5, zi ((i + 1 : Nat) : Int)), (0, .ref h0), (1, zi ((r : Nat) : Int)), (2, zi ((npF (kpG g sv) r cnt : Nat) : Int)), (3, zi (((mI (kpG g sv) (npF (kpG g sv) r cnt) 1).toNat : Nat) : Int)), (4, zi ((6 - (dpF (kpG g sv) ((mI (kpG g sv) (npF (kpG g sv) r cnt) 1).toNat) 6 0) : Nat) : Int))] rfl (by omega) (by decide) rfl ?_
                  refine z_goto Z 75 dX7_readLeaf_120 (by decide) ?_
                  refine z_lsub [1, 2, 3, 4, 5, 0] [(0, .ref h0), (1, zi ((r : Nat) : Int)), (2, zi ((npF (kpG g sv) r cnt : Nat) : Int)), (3, zi (((mI (kpG g sv) (npF (kpG g sv) r cnt) 1).toNat : Nat) : Int)), (4, zi ((6 - (dpF (kpG g sv) ((mI (kpG g sv) (npF (kpG g sv) r cnt) 1).toNat) 6 0) : Nat) : Int)), (5, zi ((i + 1 : Nat) : Int))] rfl ?_
                  exact ih0 (i + 1) _ _ (by omega) (by first | rfl | omega) (rlG_s _ (by omega)) (by first | assumption | omega) (by first | assumption | omega) ((rlF_next (by omega) (decide_eq_true (by omega))).symm.trans he)
          exact LOOP75 (cnt + 1 - (npF (kpG g sv) r cnt) + 1) (npF (kpG g sv) r cnt) _ _ (Nat.lt_succ_self _) (by first | rfl | omega) (rlG_s0 _ _ _) (by first | assumption | omega) (by first | assumption | omega) (rfl)
        · exfalso; first | contradiction | omega
      · have h28 := of_decide_eq_false h28
        exfalso; first | contradiction | omega
    · have h17 := of_decide_eq_false h17
      exfalso; first | contradiction | omega
  · have h5 := of_decide_eq_false h5
    exfalso; first | contradiction | omega
theorem zlk_X7_seek_107 : Cond.constant RX7 107 (zI 63999) ∈ wsX7_seek := by decide +kernel
set_option maxHeartbeats 4000000 in
set_option maxRecDepth 100000 in
theorem zc_X7_seek_1 (l : Launch) (D : va_G) (ct : zCT) (h0 : Nat) (aS : Nat) (aF : Nat) (aX : Nat) (th : Int) (sg : Int) (sv : Nat) (ln : Nat) (ta : Nat) (f1 : Nat) (l1 : Nat) (f2 : Nat) (l2 : Nat) (g : Nat → Int) (fz : Nat → Int) (tx : Nat → Nat) (cnt : Nat) (r : Int) (ps : Int) (hcn : g 0 = ((cnt : Nat) : Int)) (hc : cnt ≤ 40) (hg : ∀ k, k < 432 → -2 ≤ g k ∧ g k < 70000) (hhs : ∀ k, k < 40 → 0 ≤ mI g k 1 ∧ mI g k 1 < 64) (ht : ∀ j, j < 80 → tx j < 128) (hln : ln ≤ 80) (hsv : sv ≤ 6) (h2 : 0 ≤ g 2 ∧ g 2 < 50000) (h3 : 0 ≤ g 3 ∧ g 3 < 50000) (h1 : 0 ≤ g 1 ∧ g 1 < 2000) (hr : -2147483648 ≤ r ∧ r < 2147483648) (hrr : ¬ (0 ≤ r ∧ r ≤ 3)) (hps : -2147483648 ≤ ps ∧ ps < 2147483648) : zMet l yX7_seek wsX7_seek ({ frames := 2, cells := 0, slots := 0, locals := 42 } : Room) D ct [.ref h0, zi r, zi ps] [zO h0 6 [zi th, .ref aS, zi ((sv : Nat) : Int), .ref aF, .ref aX, zi ((ln : Nat) : Int), zi ((ta : Nat) : Int), zi sg, zi ((f1 : Nat) : Int), zi ((l1 : Nat) : Int), zi ((f2 : Nat) : Int), zi ((l2 : Nat) : Int)], zAI ct aS 3888 g, zAZ ct aF 2 fz, zAI ct aX 80 (zN tx)] (fun _ : Unit => True) (fun _ => some (zi (0))) (fun _ => [zO h0 6 [zi 1, .ref aS, zi ((sv : Nat) : Int), .ref aF, .ref aX, zi ((ln : Nat) : Int), zi ((ta : Nat) : Int), zi sg, zi ((f1 : Nat) : Int), zi ((l1 : Nat) : Int), zi ((f2 : Nat) : Int), zi ((l2 : Nat) : Int)], zAI ct aS 3888 g, zAZ ct aF 2 fz, zAI ct aX 80 (zN tx)]) 0 0 := by
  refine zMet_i (cc := cX7_seek) (maxL := 4) (r := fun _ => 0) (by decide) rfl (Nat.le_of_ble_eq_true rfl) ?_
  intro p e s m below meth c A Q Z hnm hR
  refine z_eqs _ [(0, .ref h0), (1, zi r), (2, zi ps)] _ rfl rfl rfl ?_
  refine z_iload_n Z dX7_seek_0 2 rfl ?_
  refine z_iconst (v := -1) Z dX7_seek_1 rfl ?_
  refine z_ldc (v := 63999) Z dX7_seek_2 zlk_X7_seek_107 ?_
  refine z_callSu (rest := []) Z dX7_seek_4 (zc_X7_in l D ct (ps) ((-1)) (63999) (by first | assumption | omega) (by first | assumption | omega) (by first | assumption | omega)) (va_cwS 3 Z.1.2.2.2.2 gX7_seek_X7_in rfl rfl rfl (by decide +kernel) ⟨Nat.le_of_ble_eq_true rfl, Nat.le_of_ble_eq_true rfl⟩) rfl (Nat.le_of_ble_eq_true rfl) ⟨Nat.le_of_ble_eq_true rfl, Nat.le_of_ble_eq_true rfl⟩ [false, false, false, false] [zO h0 6 [zi th, .ref aS, zi ((sv : Nat) : Int), .ref aF, .ref aX, zi ((ln : Nat) : Int), zi ((ta : Nat) : Int), zi sg, zi ((f1 : Nat) : Int), zi ((l1 : Nat) : Int), zi ((f2 : Nat) : Int), zi ((l2 : Nat) : Int)], zAI ct aS 3888 g, zAZ ct aF 2 fz, zAI ct aX 80 (zN tx)] [zi (zb (decide ((-1) ≤ ps ∧ ps ≤ 63999)))] rfl rfl rfl rfl ?_
  refine z_istore_n Z dX7_seek_7 [(3, zi (zb (decide ((-1) ≤ ps ∧ ps ≤ 63999)))), (0, .ref h0), (1, zi r), (2, zi ps)] (by decide) rfl ?_
  refine z_aload_n Z dX7_seek_8 1 rfl ?_
  refine z_iload_n Z dX7_seek_9 2 rfl ?_
  refine z_callSu (rest := [.ref h0]) Z dX7_seek_10 (zc_X7_isReader l D ct (r) (by first | assumption | omega)) (va_cwS 1 Z.1.2.2.2.2 gX7_seek_X7_isReader rfl rfl rfl (by decide +kernel) ⟨Nat.le_of_ble_eq_true rfl, Nat.le_of_ble_eq_true rfl⟩) rfl (Nat.le_of_ble_eq_true rfl) ⟨Nat.le_of_ble_eq_true rfl, Nat.le_of_ble_eq_true rfl⟩ [false, false, false, false] [zO h0 6 [zi th, .ref aS, zi ((sv : Nat) : Int), .ref aF, .ref aX, zi ((ln : Nat) : Int), zi ((ta : Nat) : Int), zi sg, zi ((f1 : Nat) : Int), zi ((l1 : Nat) : Int), zi ((f2 : Nat) : Int), zi ((l2 : Nat) : Int)], zAI ct aS 3888 g, zAZ ct aF 2 fz, zAI ct aX 80 (zN tx)] [zi (zb (decide (0 ≤ r ∧ r ≤ 3))), .ref h0] rfl rfl rfl rfl ?_
  refine z_ifb_ne Z 20 dX7_seek_13 (by decide) (fun h13 => ?_) (fun h13 => ?_)
  · have h13 := of_decide_eq_true h13
    exfalso; first | contradiction | omega
  · have h13 := of_decide_eq_false h13
    refine z_iconst (v := 1) Z dX7_seek_16 rfl ?_
    refine z_goto Z 41 dX7_seek_17 (by decide) ?_
    refine z_callVu (rest := []) Z dX7_seek_41 6 0 _ _ rfl rfl rfl (zc_X7_holds l D ct (h0) (aS) (aF) (aX) (th) (sg) (sv) (ln) (ta) (f1) (l1) (f2) (l2) (1) (by first | assumption | omega)) (cwV 1 Z.1.2.2.2.2 gX7_seek_X7_holds rfl rfl rfl (by decide +kernel) ⟨Nat.le_of_ble_eq_true rfl, Nat.le_of_ble_eq_true rfl⟩) rfl (Nat.le_of_ble_eq_true rfl) ⟨Nat.le_of_ble_eq_true rfl, Nat.le_of_ble_eq_true rfl⟩ [true, false, false, false] [zO h0 6 [zi 1, .ref aS, zi ((sv : Nat) : Int), .ref aF, .ref aX, zi ((ln : Nat) : Int), zi ((ta : Nat) : Int), zi sg, zi ((f1 : Nat) : Int), zi ((l1 : Nat) : Int), zi ((f2 : Nat) : Int), zi ((l2 : Nat) : Int)], zAI ct aS 3888 g, zAZ ct aF 2 fz, zAI ct aX 80 (zN tx)] [zi (zb (decide (1 = 0)))] rfl rfl rfl rfl ?_
    refine z_ifb_eq Z 56 dX7_seek_44 (by decide) (fun h44 => ?_) (fun h44 => ?_)
    · have h44 := of_decide_eq_false h44
      refine z_iconst (v := 0) Z dX7_seek_56 rfl ?_
      refine z_eqs [zO h0 6 [zi 1, .ref aS, zi ((sv : Nat) : Int), .ref aF, .ref aX, zi ((ln : Nat) : Int), zi ((ta : Nat) : Int), zi sg, zi ((f1 : Nat) : Int), zi ((l1 : Nat) : Int), zi ((f2 : Nat) : Int), zi ((l2 : Nat) : Int)], zAI ct aS 3888 g, zAZ ct aF 2 fz, zAI ct aX 80 (zN tx)] _ [zi 0] (rfl) rfl (rfl) ?_
      exact hR _ _ () trivial dX7_seek_57
    · have h44 := of_decide_eq_true h44
      exfalso; first | contradiction | omega
set_option maxHeartbeats 4000000 in
set_option maxRecDepth 100000 in
theorem zc_X7_seek_2 (l : Launch) (D : va_G) (ct : zCT) (h0 : Nat) (aS : Nat) (aF : Nat) (aX : Nat) (th : Int) (sg : Int) (sv : Nat) (ln : Nat) (ta : Nat) (f1 : Nat) (l1 : Nat) (f2 : Nat) (l2 : Nat) (g : Nat → Int) (fz : Nat → Int) (tx : Nat → Nat) (cnt : Nat) (r : Nat) (ps : Int) (hcn : g 0 = ((cnt : Nat) : Int)) (hc : cnt ≤ 40) (hg : ∀ k, k < 432 → -2 ≤ g k ∧ g k < 70000) (hhs : ∀ k, k < 40 → 0 ≤ mI g k 1 ∧ mI g k 1 < 64) (ht : ∀ j, j < 80 → tx j < 128) (hln : ln ≤ 80) (hsv : sv ≤ 6) (h2 : 0 ≤ g 2 ∧ g 2 < 50000) (h3 : 0 ≤ g 3 ∧ g 3 < 50000) (h1 : 0 ≤ g 1 ∧ g 1 < 2000) (hr : r < 4) (hps : -2147483648 ≤ ps ∧ ps < 2147483648) (hpo : ¬ (-1 ≤ ps ∧ ps ≤ 63999)) : zMet l yX7_seek wsX7_seek ({ frames := 2, cells := 0, slots := 0, locals := 42 } : Room) D ct [.ref h0, zi ((r : Nat) : Int), zi ps] [zO h0 6 [zi th, .ref aS, zi ((sv : Nat) : Int), .ref aF, .ref aX, zi ((ln : Nat) : Int), zi ((ta : Nat) : Int), zi sg, zi ((f1 : Nat) : Int), zi ((l1 : Nat) : Int), zi ((f2 : Nat) : Int), zi ((l2 : Nat) : Int)], zAI ct aS 3888 g, zAZ ct aF 2 fz, zAI ct aX 80 (zN tx)] (fun _ : Unit => True) (fun _ => some (zi (0))) (fun _ => [zO h0 6 [zi 2, .ref aS, zi ((sv : Nat) : Int), .ref aF, .ref aX, zi ((ln : Nat) : Int), zi ((ta : Nat) : Int), zi sg, zi ((f1 : Nat) : Int), zi ((l1 : Nat) : Int), zi ((f2 : Nat) : Int), zi ((l2 : Nat) : Int)], zAI ct aS 3888 g, zAZ ct aF 2 fz, zAI ct aX 80 (zN tx)]) 0 0 := by
  refine zMet_i (cc := cX7_seek) (maxL := 4) (r := fun _ => 0) (by decide) rfl (Nat.le_of_ble_eq_true rfl) ?_
  intro p e s m below meth c A Q Z hnm hR
  refine z_eqs _ [(0, .ref h0), (1, zi ((r : Nat) : Int)), (2, zi ps)] _ rfl rfl rfl ?_
  refine z_iload_n Z dX7_seek_0 2 rfl ?_
  refine z_iconst (v := -1) Z dX7_seek_1 rfl ?_
  refine z_ldc (v := 63999) Z dX7_seek_2 zlk_X7_seek_107 ?_
  refine z_callSu (rest := []) Z dX7_seek_4 (zc_X7_in l D ct (ps) ((-1)) (63999) (by first | assumption | omega) (by first | assumption | omega) (by first | assumption | omega)) (va_cwS 3 Z.1.2.2.2.2 gX7_seek_X7_in rfl rfl rfl (by decide +kernel) ⟨Nat.le_of_ble_eq_true rfl, Nat.le_of_ble_eq_true rfl⟩) rfl (Nat.le_of_ble_eq_true rfl) ⟨Nat.le_of_ble_eq_true rfl, Nat.le_of_ble_eq_true rfl⟩ [false, false, false, false] [zO h0 6 [zi th, .ref aS, zi ((sv : Nat) : Int), .ref aF, .ref aX, zi ((ln : Nat) : Int), zi ((ta : Nat) : Int), zi sg, zi ((f1 : Nat) : Int), zi ((l1 : Nat) : Int), zi ((f2 : Nat) : Int), zi ((l2 : Nat) : Int)], zAI ct aS 3888 g, zAZ ct aF 2 fz, zAI ct aX 80 (zN tx)] [zi (zb (decide ((-1) ≤ ps ∧ ps ≤ 63999)))] rfl rfl rfl rfl ?_
  refine z_istore_n Z dX7_seek_7 [(3, zi (zb (decide ((-1) ≤ ps ∧ ps ≤ 63999)))), (0, .ref h0), (1, zi ((r : Nat) : Int)), (2, zi ps)] (by decide) rfl ?_
  refine z_aload_n Z dX7_seek_8 1 rfl ?_
  refine z_iload_n Z dX7_seek_9 2 rfl ?_
  refine z_callSu (rest := [.ref h0]) Z dX7_seek_10 (zc_X7_isReader l D ct (((r : Nat) : Int)) (by first | assumption | omega)) (va_cwS 1 Z.1.2.2.2.2 gX7_seek_X7_isReader rfl rfl rfl (by decide +kernel) ⟨Nat.le_of_ble_eq_true rfl, Nat.le_of_ble_eq_true rfl⟩) rfl (Nat.le_of_ble_eq_true rfl) ⟨Nat.le_of_ble_eq_true rfl, Nat.le_of_ble_eq_true rfl⟩ [false, false, false, false] [zO h0 6 [zi th, .ref aS, zi ((sv : Nat) : Int), .ref aF, .ref aX, zi ((ln : Nat) : Int), zi ((ta : Nat) : Int), zi sg, zi ((f1 : Nat) : Int), zi ((l1 : Nat) : Int), zi ((f2 : Nat) : Int), zi ((l2 : Nat) : Int)], zAI ct aS 3888 g, zAZ ct aF 2 fz, zAI ct aX 80 (zN tx)] [zi (zb (decide (0 ≤ ((r : Nat) : Int) ∧ ((r : Nat) : Int) ≤ 3))), .ref h0] rfl rfl rfl rfl ?_
  refine z_ifb_ne Z 20 dX7_seek_13 (by decide) (fun h13 => ?_) (fun h13 => ?_)
  · have h13 := of_decide_eq_true h13
    refine z_iload_n Z dX7_seek_20 0 rfl ?_
    refine z_ifb_ne Z 28 dX7_seek_21 (by decide) (fun h21 => ?_) (fun h21 => ?_)
    · have h21 := of_decide_eq_true h21
      exfalso; omega
    · have h21 := of_decide_eq_false h21
      refine z_iconst (v := 2) Z dX7_seek_24 rfl ?_
      refine z_goto Z 41 dX7_seek_25 (by decide) ?_
      refine z_callVu (rest := []) Z dX7_seek_41 6 0 _ _ rfl rfl rfl (zc_X7_holds l D ct (h0) (aS) (aF) (aX) (th) (sg) (sv) (ln) (ta) (f1) (l1) (f2) (l2) (2) (by first | assumption | omega)) (cwV 1 Z.1.2.2.2.2 gX7_seek_X7_holds rfl rfl rfl (by decide +kernel) ⟨Nat.le_of_ble_eq_true rfl, Nat.le_of_ble_eq_true rfl⟩) rfl (Nat.le_of_ble_eq_true rfl) ⟨Nat.le_of_ble_eq_true rfl, Nat.le_of_ble_eq_true rfl⟩ [true, false, false, false] [zO h0 6 [zi 2, .ref aS, zi ((sv : Nat) : Int), .ref aF, .ref aX, zi ((ln : Nat) : Int), zi ((ta : Nat) : Int), zi sg, zi ((f1 : Nat) : Int), zi ((l1 : Nat) : Int), zi ((f2 : Nat) : Int), zi ((l2 : Nat) : Int)], zAI ct aS 3888 g, zAZ ct aF 2 fz, zAI ct aX 80 (zN tx)] [zi (zb (decide (2 = 0)))] rfl rfl rfl rfl ?_
      refine z_ifb_eq Z 56 dX7_seek_44 (by decide) (fun h44 => ?_) (fun h44 => ?_)
      · have h44 := of_decide_eq_false h44
        refine z_iconst (v := 0) Z dX7_seek_56 rfl ?_
        refine z_eqs [zO h0 6 [zi 2, .ref aS, zi ((sv : Nat) : Int), .ref aF, .ref aX, zi ((ln : Nat) : Int), zi ((ta : Nat) : Int), zi sg, zi ((f1 : Nat) : Int), zi ((l1 : Nat) : Int), zi ((f2 : Nat) : Int), zi ((l2 : Nat) : Int)], zAI ct aS 3888 g, zAZ ct aF 2 fz, zAI ct aX 80 (zN tx)] _ [zi 0] (rfl) rfl (rfl) ?_
        exact hR _ _ () trivial dX7_seek_57
      · have h44 := of_decide_eq_true h44
        exfalso; omega
  · have h13 := of_decide_eq_false h13
    exfalso; omega
set_option maxHeartbeats 4000000 in
set_option maxRecDepth 100000 in
theorem zc_X7_seek_3 (l : Launch) (D : va_G) (ct : zCT) (h0 : Nat) (aS : Nat) (aF : Nat) (aX : Nat) (th : Int) (sg : Int) (sv : Nat) (ln : Nat) (ta : Nat) (f1 : Nat) (l1 : Nat) (f2 : Nat) (l2 : Nat) (g : Nat → Int) (fz : Nat → Int) (tx : Nat → Nat) (cnt : Nat) (r : Nat) (ps : Int) (hcn : g 0 = ((cnt : Nat) : Int)) (hc : cnt ≤ 40) (hg : ∀ k, k < 432 → -2 ≤ g k ∧ g k < 70000) (hhs : ∀ k, k < 40 → 0 ≤ mI g k 1 ∧ mI g k 1 < 64) (ht : ∀ j, j < 80 → tx j < 128) (hln : ln ≤ 80) (hsv : sv ≤ 6) (h2 : 0 ≤ g 2 ∧ g 2 < 50000) (h3 : 0 ≤ g 3 ∧ g 3 < 50000) (h1 : 0 ≤ g 1 ∧ g 1 < 2000) (hr : r < 4) (hps : -2147483648 ≤ ps ∧ ps < 2147483648) (hpo : -1 ≤ ps ∧ ps ≤ 63999) (hop : ¬ ((0 ≤ ((r : Nat) : Int) ∧ ((r : Nat) : Int) ≤ 3) ∧ g (4 + (((r : Nat) : Int)).toNat) ≠ -2)) : zMet l yX7_seek wsX7_seek ({ frames := 3, cells := 0, slots := 0, locals := 63 } : Room) D ct [.ref h0, zi ((r : Nat) : Int), zi ps] [zO h0 6 [zi th, .ref aS, zi ((sv : Nat) : Int), .ref aF, .ref aX, zi ((ln : Nat) : Int), zi ((ta : Nat) : Int), zi sg, zi ((f1 : Nat) : Int), zi ((l1 : Nat) : Int), zi ((f2 : Nat) : Int), zi ((l2 : Nat) : Int)], zAI ct aS 3888 g, zAZ ct aF 2 fz, zAI ct aX 80 (zN tx)] (fun _ : Unit => True) (fun _ => some (zi (0))) (fun _ => [zO h0 6 [zi 3, .ref aS, zi ((sv : Nat) : Int), .ref aF, .ref aX, zi ((ln : Nat) : Int), zi ((ta : Nat) : Int), zi sg, zi ((f1 : Nat) : Int), zi ((l1 : Nat) : Int), zi ((f2 : Nat) : Int), zi ((l2 : Nat) : Int)], zAI ct aS 3888 g, zAZ ct aF 2 fz, zAI ct aX 80 (zN tx)]) 0 0 := by
  refine zMet_i (cc := cX7_seek) (maxL := 4) (r := fun _ => 0) (by decide) rfl (Nat.le_of_ble_eq_true rfl) ?_
  intro p e s m below meth c A Q Z hnm hR
  refine z_eqs _ [(0, .ref h0), (1, zi ((r : Nat) : Int)), (2, zi ps)] _ rfl rfl rfl ?_
  refine z_iload_n Z dX7_seek_0 2 rfl ?_
  refine z_iconst (v := -1) Z dX7_seek_1 rfl ?_
  refine z_ldc (v := 63999) Z dX7_seek_2 zlk_X7_seek_107 ?_
  refine z_callSu (rest := []) Z dX7_seek_4 (zc_X7_in l D ct (ps) ((-1)) (63999) (by first | assumption | omega) (by first | assumption | omega) (by first | assumption | omega)) (va_cwS 3 Z.1.2.2.2.2 gX7_seek_X7_in rfl rfl rfl (by decide +kernel) ⟨Nat.le_of_ble_eq_true rfl, Nat.le_of_ble_eq_true rfl⟩) rfl (Nat.le_of_ble_eq_true rfl) ⟨Nat.le_of_ble_eq_true rfl, Nat.le_of_ble_eq_true rfl⟩ [false, false, false, false] [zO h0 6 [zi th, .ref aS, zi ((sv : Nat) : Int), .ref aF, .ref aX, zi ((ln : Nat) : Int), zi ((ta : Nat) : Int), zi sg, zi ((f1 : Nat) : Int), zi ((l1 : Nat) : Int), zi ((f2 : Nat) : Int), zi ((l2 : Nat) : Int)], zAI ct aS 3888 g, zAZ ct aF 2 fz, zAI ct aX 80 (zN tx)] [zi (zb (decide ((-1) ≤ ps ∧ ps ≤ 63999)))] rfl rfl rfl rfl ?_
  refine z_istore_n Z dX7_seek_7 [(3, zi (zb (decide ((-1) ≤ ps ∧ ps ≤ 63999)))), (0, .ref h0), (1, zi ((r : Nat) : Int)), (2, zi ps)] (by decide) rfl ?_
  refine z_aload_n Z dX7_seek_8 1 rfl ?_
  refine z_iload_n Z dX7_seek_9 2 rfl ?_
  refine z_callSu (rest := [.ref h0]) Z dX7_seek_10 (zc_X7_isReader l D ct (((r : Nat) : Int)) (by first | assumption | omega)) (va_cwS 1 Z.1.2.2.2.2 gX7_seek_X7_isReader rfl rfl rfl (by decide +kernel) ⟨Nat.le_of_ble_eq_true rfl, Nat.le_of_ble_eq_true rfl⟩) rfl (Nat.le_of_ble_eq_true rfl) ⟨Nat.le_of_ble_eq_true rfl, Nat.le_of_ble_eq_true rfl⟩ [false, false, false, false] [zO h0 6 [zi th, .ref aS, zi ((sv : Nat) : Int), .ref aF, .ref aX, zi ((ln : Nat) : Int), zi ((ta : Nat) : Int), zi sg, zi ((f1 : Nat) : Int), zi ((l1 : Nat) : Int), zi ((f2 : Nat) : Int), zi ((l2 : Nat) : Int)], zAI ct aS 3888 g, zAZ ct aF 2 fz, zAI ct aX 80 (zN tx)] [zi (zb (decide (0 ≤ ((r : Nat) : Int) ∧ ((r : Nat) : Int) ≤ 3))), .ref h0] rfl rfl rfl rfl ?_
  refine z_ifb_ne Z 20 dX7_seek_13 (by decide) (fun h13 => ?_) (fun h13 => ?_)
  · have h13 := of_decide_eq_true h13
    refine z_iload_n Z dX7_seek_20 0 rfl ?_
    refine z_ifb_ne Z 28 dX7_seek_21 (by decide) (fun h21 => ?_) (fun h21 => ?_)
    · have h21 := of_decide_eq_true h21
      refine z_aload_n Z dX7_seek_28 1 rfl ?_
      refine z_iload_n Z dX7_seek_29 2 rfl ?_
      refine z_callVu (rest := [.ref h0]) Z dX7_seek_30 6 0 _ _ rfl rfl rfl (zc_X7_isOpen l D ct (h0) (aS) (aF) (aX) (th) (sg) (sv) (ln) (ta) (f1) (l1) (f2) (l2) (g) (((r : Nat) : Int)) (by first | assumption | omega) (by first | assumption | omega)) (cwV 1 Z.1.2.2.2.2 gX7_seek_X7_isOpen rfl rfl rfl (by decide +kernel) ⟨Nat.le_of_ble_eq_true rfl, Nat.le_of_ble_eq_true rfl⟩) rfl (Nat.le_of_ble_eq_true rfl) ⟨Nat.le_of_ble_eq_true rfl, Nat.le_of_ble_eq_true rfl⟩ [true, true, false, false] [zO h0 6 [zi th, .ref aS, zi ((sv : Nat) : Int), .ref aF, .ref aX, zi ((ln : Nat) : Int), zi ((ta : Nat) : Int), zi sg, zi ((f1 : Nat) : Int), zi ((l1 : Nat) : Int), zi ((f2 : Nat) : Int), zi ((l2 : Nat) : Int)], zAI ct aS 3888 g, zAZ ct aF 2 fz, zAI ct aX 80 (zN tx)] [zi (zb (decide ((0 ≤ ((r : Nat) : Int) ∧ ((r : Nat) : Int) ≤ 3) ∧ g (4 + ((r : Nat) : Int).toNat) ≠ -2))), .ref h0] rfl rfl rfl rfl ?_
      refine z_ifb_ne Z 40 dX7_seek_33 (by decide) (fun h33 => ?_) (fun h33 => ?_)
      · have h33 := of_decide_eq_true h33
        exfalso; first | contradiction | omega
      · have h33 := of_decide_eq_false h33
        refine z_iconst (v := 3) Z dX7_seek_36 rfl ?_
        refine z_goto Z 41 dX7_seek_37 (by decide) ?_
        refine z_callVu (rest := []) Z dX7_seek_41 6 0 _ _ rfl rfl rfl (zc_X7_holds l D ct (h0) (aS) (aF) (aX) (th) (sg) (sv) (ln) (ta) (f1) (l1) (f2) (l2) (3) (by first | assumption | omega)) (cwV 1 Z.1.2.2.2.2 gX7_seek_X7_holds rfl rfl rfl (by decide +kernel) ⟨Nat.le_of_ble_eq_true rfl, Nat.le_of_ble_eq_true rfl⟩) rfl (Nat.le_of_ble_eq_true rfl) ⟨Nat.le_of_ble_eq_true rfl, Nat.le_of_ble_eq_true rfl⟩ [true, false, false, false] [zO h0 6 [zi 3, .ref aS, zi ((sv : Nat) : Int), .ref aF, .ref aX, zi ((ln : Nat) : Int), zi ((ta : Nat) : Int), zi sg, zi ((f1 : Nat) : Int), zi ((l1 : Nat) : Int), zi ((f2 : Nat) : Int), zi ((l2 : Nat) : Int)], zAI ct aS 3888 g, zAZ ct aF 2 fz, zAI ct aX 80 (zN tx)] [zi (zb (decide (3 = 0)))] rfl rfl rfl rfl ?_
        refine z_ifb_eq Z 56 dX7_seek_44 (by decide) (fun h44 => ?_) (fun h44 => ?_)
        · have h44 := of_decide_eq_false h44
          refine z_iconst (v := 0) Z dX7_seek_56 rfl ?_
          refine z_eqs [zO h0 6 [zi 3, .ref aS, zi ((sv : Nat) : Int), .ref aF, .ref aX, zi ((ln : Nat) : Int), zi ((ta : Nat) : Int), zi sg, zi ((f1 : Nat) : Int), zi ((l1 : Nat) : Int), zi ((f2 : Nat) : Int), zi ((l2 : Nat) : Int)], zAI ct aS 3888 g, zAZ ct aF 2 fz, zAI ct aX 80 (zN tx)] _ [zi 0] (rfl) rfl (rfl) ?_
          exact hR _ _ () trivial dX7_seek_57
        · have h44 := of_decide_eq_true h44
          exfalso; first | contradiction | omega
    · have h21 := of_decide_eq_false h21
      exfalso; first | contradiction | omega
  · have h13 := of_decide_eq_false h13
    exfalso; first | contradiction | omega
set_option maxHeartbeats 4000000 in
set_option maxRecDepth 100000 in
theorem zc_X7_seek_0 (l : Launch) (D : va_G) (ct : zCT) (h0 : Nat) (aS : Nat) (aF : Nat) (aX : Nat) (th : Int) (sg : Int) (sv : Nat) (ln : Nat) (ta : Nat) (f1 : Nat) (l1 : Nat) (f2 : Nat) (l2 : Nat) (g : Nat → Int) (fz : Nat → Int) (tx : Nat → Nat) (cnt : Nat) (r : Nat) (ps : Int) (hcn : g 0 = ((cnt : Nat) : Int)) (hc : cnt ≤ 40) (hg : ∀ k, k < 432 → -2 ≤ g k ∧ g k < 70000) (hhs : ∀ k, k < 40 → 0 ≤ mI g k 1 ∧ mI g k 1 < 64) (ht : ∀ j, j < 80 → tx j < 128) (hln : ln ≤ 80) (hsv : sv ≤ 6) (h2 : 0 ≤ g 2 ∧ g 2 < 50000) (h3 : 0 ≤ g 3 ∧ g 3 < 50000) (h1 : 0 ≤ g 1 ∧ g 1 < 2000) (hr : r < 4) (hps : -2147483648 ≤ ps ∧ ps < 2147483648) (hpo : -1 ≤ ps ∧ ps ≤ 63999) (hop : (0 ≤ ((r : Nat) : Int) ∧ ((r : Nat) : Int) ≤ 3) ∧ g (4 + (((r : Nat) : Int)).toNat) ≠ -2) : zMet l yX7_seek wsX7_seek ({ frames := 3, cells := 0, slots := 0, locals := 67 } : Room) D ct [.ref h0, zi ((r : Nat) : Int), zi ps] [zO h0 6 [zi th, .ref aS, zi ((sv : Nat) : Int), .ref aF, .ref aX, zi ((ln : Nat) : Int), zi ((ta : Nat) : Int), zi sg, zi ((f1 : Nat) : Int), zi ((l1 : Nat) : Int), zi ((f2 : Nat) : Int), zi ((l2 : Nat) : Int)], zAI ct aS 3888 g, zAZ ct aF 2 fz, zAI ct aX 80 (zN tx)] (fun _ : Unit => True) (fun _ => some (zi ((g (4 + r))))) (fun _ => [zO h0 6 [zi 0, .ref aS, zi ((kpS sv : Nat) : Int), .ref aF, .ref aX, zi ((ln : Nat) : Int), zi ((ta : Nat) : Int), zi sg, zi ((f1 : Nat) : Int), zi ((l1 : Nat) : Int), zi ((f2 : Nat) : Int), zi ((l2 : Nat) : Int)], zAI ct aS 3888 (zU (kpG g sv) (4 + r) ps), zAZ ct aF 2 fz, zAI ct aX 80 (zN tx)]) 0 0 := by
  refine zMet_i (cc := cX7_seek) (maxL := 4) (r := fun _ => (g (4 + r))) (by decide) rfl (Nat.le_of_ble_eq_true rfl) ?_
  intro p e s m below meth c A Q Z hnm hR
  refine z_eqs _ [(0, .ref h0), (1, zi ((r : Nat) : Int)), (2, zi ps)] _ rfl rfl rfl ?_
  refine z_iload_n Z dX7_seek_0 2 rfl ?_
  refine z_iconst (v := -1) Z dX7_seek_1 rfl ?_
  refine z_ldc (v := 63999) Z dX7_seek_2 zlk_X7_seek_107 ?_
  refine z_callSu (rest := []) Z dX7_seek_4 (zc_X7_in l D ct (ps) ((-1)) (63999) (by first | assumption | omega) (by first | assumption | omega) (by first | assumption | omega)) (va_cwS 3 Z.1.2.2.2.2 gX7_seek_X7_in rfl rfl rfl (by decide +kernel) ⟨Nat.le_of_ble_eq_true rfl, Nat.le_of_ble_eq_true rfl⟩) rfl (Nat.le_of_ble_eq_true rfl) ⟨Nat.le_of_ble_eq_true rfl, Nat.le_of_ble_eq_true rfl⟩ [false, false, false, false] [zO h0 6 [zi th, .ref aS, zi ((sv : Nat) : Int), .ref aF, .ref aX, zi ((ln : Nat) : Int), zi ((ta : Nat) : Int), zi sg, zi ((f1 : Nat) : Int), zi ((l1 : Nat) : Int), zi ((f2 : Nat) : Int), zi ((l2 : Nat) : Int)], zAI ct aS 3888 g, zAZ ct aF 2 fz, zAI ct aX 80 (zN tx)] [zi (zb (decide ((-1) ≤ ps ∧ ps ≤ 63999)))] rfl rfl rfl rfl ?_
  refine z_istore_n Z dX7_seek_7 [(3, zi (zb (decide ((-1) ≤ ps ∧ ps ≤ 63999)))), (0, .ref h0), (1, zi ((r : Nat) : Int)), (2, zi ps)] (by decide) rfl ?_
  refine z_aload_n Z dX7_seek_8 1 rfl ?_
  refine z_iload_n Z dX7_seek_9 2 rfl ?_
  refine z_callSu (rest := [.ref h0]) Z dX7_seek_10 (zc_X7_isReader l D ct (((r : Nat) : Int)) (by first | assumption | omega)) (va_cwS 1 Z.1.2.2.2.2 gX7_seek_X7_isReader rfl rfl rfl (by decide +kernel) ⟨Nat.le_of_ble_eq_true rfl, Nat.le_of_ble_eq_true rfl⟩) rfl (Nat.le_of_ble_eq_true rfl) ⟨Nat.le_of_ble_eq_true rfl, Nat.le_of_ble_eq_true rfl⟩ [false, false, false, false] [zO h0 6 [zi th, .ref aS, zi ((sv : Nat) : Int), .ref aF, .ref aX, zi ((ln : Nat) : Int), zi ((ta : Nat) : Int), zi sg, zi ((f1 : Nat) : Int), zi ((l1 : Nat) : Int), zi ((f2 : Nat) : Int), zi ((l2 : Nat) : Int)], zAI ct aS 3888 g, zAZ ct aF 2 fz, zAI ct aX 80 (zN tx)] [zi (zb (decide (0 ≤ ((r : Nat) : Int) ∧ ((r : Nat) : Int) ≤ 3))), .ref h0] rfl rfl rfl rfl ?_
  refine z_ifb_ne Z 20 dX7_seek_13 (by decide) (fun h13 => ?_) (fun h13 => ?_)
  · have h13 := of_decide_eq_true h13
    refine z_iload_n Z dX7_seek_20 0 rfl ?_
    refine z_ifb_ne Z 28 dX7_seek_21 (by decide) (fun h21 => ?_) (fun h21 => ?_)
    · have h21 := of_decide_eq_true h21
      refine z_aload_n Z dX7_seek_28 1 rfl ?_
      refine z_iload_n Z dX7_seek_29 2 rfl ?_
      refine z_callVu (rest := [.ref h0]) Z dX7_seek_30 6 0 _ _ rfl rfl rfl (zc_X7_isOpen l D ct (h0) (aS) (aF) (aX) (th) (sg) (sv) (ln) (ta) (f1) (l1) (f2) (l2) (g) (((r : Nat) : Int)) (by first | assumption | omega) (by first | assumption | omega)) (cwV 1 Z.1.2.2.2.2 gX7_seek_X7_isOpen rfl rfl rfl (by decide +kernel) ⟨Nat.le_of_ble_eq_true rfl, Nat.le_of_ble_eq_true rfl⟩) rfl (Nat.le_of_ble_eq_true rfl) ⟨Nat.le_of_ble_eq_true rfl, Nat.le_of_ble_eq_true rfl⟩ [true, true, false, false] [zO h0 6 [zi th, .ref aS, zi ((sv : Nat) : Int), .ref aF, .ref aX, zi ((ln : Nat) : Int), zi ((ta : Nat) : Int), zi sg, zi ((f1 : Nat) : Int), zi ((l1 : Nat) : Int), zi ((f2 : Nat) : Int), zi ((l2 : Nat) : Int)], zAI ct aS 3888 g, zAZ ct aF 2 fz, zAI ct aX 80 (zN tx)] [zi (zb (decide ((0 ≤ ((r : Nat) : Int) ∧ ((r : Nat) : Int) ≤ 3) ∧ g (4 + ((r : Nat) : Int).toNat) ≠ -2))), .ref h0] rfl rfl rfl rfl ?_
      refine z_ifb_ne Z 40 dX7_seek_33 (by decide) (fun h33 => ?_) (fun h33 => ?_)
      · have h33 := of_decide_eq_true h33
        refine z_iconst (v := 0) Z dX7_seek_40 rfl ?_
        refine z_callVu (rest := []) Z dX7_seek_41 6 0 _ _ rfl rfl rfl (zc_X7_holds l D ct (h0) (aS) (aF) (aX) (th) (sg) (sv) (ln) (ta) (f1) (l1) (f2) (l2) (0) (by first | assumption | omega)) (cwV 1 Z.1.2.2.2.2 gX7_seek_X7_holds rfl rfl rfl (by decide +kernel) ⟨Nat.le_of_ble_eq_true rfl, Nat.le_of_ble_eq_true rfl⟩) rfl (Nat.le_of_ble_eq_true rfl) ⟨Nat.le_of_ble_eq_true rfl, Nat.le_of_ble_eq_true rfl⟩ [true, false, false, false] [zO h0 6 [zi 0, .ref aS, zi ((sv : Nat) : Int), .ref aF, .ref aX, zi ((ln : Nat) : Int), zi ((ta : Nat) : Int), zi sg, zi ((f1 : Nat) : Int), zi ((l1 : Nat) : Int), zi ((f2 : Nat) : Int), zi ((l2 : Nat) : Int)], zAI ct aS 3888 g, zAZ ct aF 2 fz, zAI ct aX 80 (zN tx)] [zi (zb (decide (0 = 0)))] rfl rfl rfl rfl ?_
        refine z_ifb_eq Z 56 dX7_seek_44 (by decide) (fun h44 => ?_) (fun h44 => ?_)
        · have h44 := of_decide_eq_false h44
          exfalso; first | contradiction | omega
        · have h44 := of_decide_eq_true h44
          refine z_aload_n Z dX7_seek_47 1 rfl ?_
          refine z_iload_n Z dX7_seek_48 2 rfl ?_
          refine z_iload_n Z dX7_seek_49 3 rfl ?_
          refine z_callVu (rest := []) Z dX7_seek_50 6 0 _ _ rfl rfl rfl (zc_X7_moves l D ct (h0) (aS) (aF) (aX) (0) (sg) (sv) (ln) (ta) (f1) (l1) (f2) (l2) (g) (r) (ps) (by first | assumption | omega) (by first | assumption | omega)) (cwV 2 Z.1.2.2.2.2 gX7_seek_X7_moves rfl rfl rfl (by decide +kernel) ⟨Nat.le_of_ble_eq_true rfl, Nat.le_of_ble_eq_true rfl⟩) rfl (Nat.le_of_ble_eq_true rfl) ⟨Nat.le_of_ble_eq_true rfl, Nat.le_of_ble_eq_true rfl⟩ [true, true, false, false] [zO h0 6 [zi 0, .ref aS, zi ((kpS sv : Nat) : Int), .ref aF, .ref aX, zi ((ln : Nat) : Int), zi ((ta : Nat) : Int), zi sg, zi ((f1 : Nat) : Int), zi ((l1 : Nat) : Int), zi ((f2 : Nat) : Int), zi ((l2 : Nat) : Int)], zAI ct aS 3888 (zU (kpG g sv) (4 + r) ps), zAZ ct aF 2 fz, zAI ct aX 80 (zN tx)] [zi (g (4 + r))] rfl rfl rfl rfl ?_
          refine z_goto Z 57 dX7_seek_53 (by decide) ?_
          refine z_eqs [zO h0 6 [zi 0, .ref aS, zi ((kpS sv : Nat) : Int), .ref aF, .ref aX, zi ((ln : Nat) : Int), zi ((ta : Nat) : Int), zi sg, zi ((f1 : Nat) : Int), zi ((l1 : Nat) : Int), zi ((f2 : Nat) : Int), zi ((l2 : Nat) : Int)], zAI ct aS 3888 (zU (kpG g sv) (4 + r) ps), zAZ ct aF 2 fz, zAI ct aX 80 (zN tx)] _ [zi (g (4 + r))] (rfl) rfl (rfl) ?_
          exact hR _ _ () trivial dX7_seek_57
      · have h33 := of_decide_eq_false h33
        exfalso; first | contradiction | omega
    · have h21 := of_decide_eq_false h21
      exfalso; first | contradiction | omega
  · have h13 := of_decide_eq_false h13
    exfalso; first | contradiction | omega
set_option maxHeartbeats 4000000 in
set_option maxRecDepth 100000 in
theorem zc_X7_appendText_1 (l : Launch) (D : va_G) (ct : zCT) (h0 : Nat) (aS : Nat) (aF : Nat) (aX : Nat) (th : Int) (sg : Int) (sv : Nat) (ln : Nat) (ta : Nat) (f1 : Nat) (l1 : Nat) (f2 : Nat) (l2 : Nat) (g : Nat → Int) (fz : Nat → Int) (tx : Nat → Nat) (ch : Int) (ht : ∀ j, j < 80 → tx j < 128) (hln : ln ≤ 80) (hch : -2147483648 ≤ ch ∧ ch < 2147483648) (hcc : ¬ (32 ≤ ch ∧ ch ≤ 126)) : zMet l yX7_appendText wsX7_appendText ({ frames := 1, cells := 0, slots := 0, locals := 22 } : Room) D ct [.ref h0, zi ch] [zO h0 6 [zi th, .ref aS, zi ((sv : Nat) : Int), .ref aF, .ref aX, zi ((ln : Nat) : Int), zi ((ta : Nat) : Int), zi sg, zi ((f1 : Nat) : Int), zi ((l1 : Nat) : Int), zi ((f2 : Nat) : Int), zi ((l2 : Nat) : Int)], zAI ct aS 3888 g, zAZ ct aF 2 fz, zAI ct aX 80 (zN tx)] (fun _ : Unit => True) (fun _ => some (zi (0))) (fun _ => [zO h0 6 [zi 1, .ref aS, zi ((sv : Nat) : Int), .ref aF, .ref aX, zi ((ln : Nat) : Int), zi ((ta : Nat) : Int), zi sg, zi ((f1 : Nat) : Int), zi ((l1 : Nat) : Int), zi ((f2 : Nat) : Int), zi ((l2 : Nat) : Int)], zAI ct aS 3888 g, zAZ ct aF 2 fz, zAI ct aX 80 (zN tx)]) 0 0 := by
  refine zMet_i (cc := cX7_appendText) (maxL := 2) (r := fun _ => 0) (by decide) rfl (Nat.le_of_ble_eq_true rfl) ?_
  intro p e s m below meth c A Q Z hnm hR
  refine z_eqs _ [(0, .ref h0), (1, zi ch)] _ rfl rfl rfl ?_
  refine z_aload_n Z dX7_appendText_0 0 rfl ?_
  refine z_iload_n Z dX7_appendText_1 1 rfl ?_
  refine z_bipush (v := 32) Z dX7_appendText_2 (by decide +kernel) ?_
  refine z_bipush (v := 126) Z dX7_appendText_4 (by decide +kernel) ?_
  refine z_callSu (rest := [.ref h0]) Z dX7_appendText_6 (zc_X7_in l D ct (ch) (32) (126) (by first | assumption | omega) (by first | assumption | omega) (by first | assumption | omega)) (va_cwS 3 Z.1.2.2.2.2 gX7_appendText_X7_in rfl rfl rfl (by decide +kernel) ⟨Nat.le_of_ble_eq_true rfl, Nat.le_of_ble_eq_true rfl⟩) rfl (Nat.le_of_ble_eq_true rfl) ⟨Nat.le_of_ble_eq_true rfl, Nat.le_of_ble_eq_true rfl⟩ [false, false, false, false] [zO h0 6 [zi th, .ref aS, zi ((sv : Nat) : Int), .ref aF, .ref aX, zi ((ln : Nat) : Int), zi ((ta : Nat) : Int), zi sg, zi ((f1 : Nat) : Int), zi ((l1 : Nat) : Int), zi ((f2 : Nat) : Int), zi ((l2 : Nat) : Int)], zAI ct aS 3888 g, zAZ ct aF 2 fz, zAI ct aX 80 (zN tx)] [zi (zb (decide (32 ≤ ch ∧ ch ≤ 126))), .ref h0] rfl rfl rfl rfl ?_
  refine z_ifb_ne Z 16 dX7_appendText_9 (by decide) (fun h9 => ?_) (fun h9 => ?_)
  · have h9 := of_decide_eq_true h9
    exfalso; first | contradiction | omega
  · have h9 := of_decide_eq_false h9
    refine z_iconst (v := 1) Z dX7_appendText_12 rfl ?_
    refine z_goto Z 30 dX7_appendText_13 (by decide) ?_
    refine z_callVu (rest := []) Z dX7_appendText_30 6 0 _ _ rfl rfl rfl (zc_X7_holds l D ct (h0) (aS) (aF) (aX) (th) (sg) (sv) (ln) (ta) (f1) (l1) (f2) (l2) (1) (by first | assumption | omega)) (cwV 1 Z.1.2.2.2.2 gX7_appendText_X7_holds rfl rfl rfl (by decide +kernel) ⟨Nat.le_of_ble_eq_true rfl, Nat.le_of_ble_eq_true rfl⟩) rfl (Nat.le_of_ble_eq_true rfl) ⟨Nat.le_of_ble_eq_true rfl, Nat.le_of_ble_eq_true rfl⟩ [true, false, false, false] [zO h0 6 [zi 1, .ref aS, zi ((sv : Nat) : Int), .ref aF, .ref aX, zi ((ln : Nat) : Int), zi ((ta : Nat) : Int), zi sg, zi ((f1 : Nat) : Int), zi ((l1 : Nat) : Int), zi ((f2 : Nat) : Int), zi ((l2 : Nat) : Int)], zAI ct aS 3888 g, zAZ ct aF 2 fz, zAI ct aX 80 (zN tx)] [zi (zb (decide (1 = 0)))] rfl rfl rfl rfl ?_
    refine z_ifb_ne Z 38 dX7_appendText_33 (by decide) (fun h33 => ?_) (fun h33 => ?_)
    · have h33 := of_decide_eq_true h33
      exfalso; first | contradiction | omega
    · have h33 := of_decide_eq_false h33
      refine z_iconst (v := 0) Z dX7_appendText_36 rfl ?_
      refine z_eqs [zO h0 6 [zi 1, .ref aS, zi ((sv : Nat) : Int), .ref aF, .ref aX, zi ((ln : Nat) : Int), zi ((ta : Nat) : Int), zi sg, zi ((f1 : Nat) : Int), zi ((l1 : Nat) : Int), zi ((f2 : Nat) : Int), zi ((l2 : Nat) : Int)], zAI ct aS 3888 g, zAZ ct aF 2 fz, zAI ct aX 80 (zN tx)] _ [zi 0] (rfl) rfl (rfl) ?_
      exact hR _ _ () trivial dX7_appendText_37
theorem zin_X7_appendText_X7 : ∀ w ∈ wsX70, w ∈ wsX7_appendText := by decide +kernel
theorem zlk_X7_appendText_65 : Cond.fieldLink RX7 65 "HashedDirectoryModel" "length" "I" ∈ wsX7_appendText := by decide +kernel
set_option maxHeartbeats 4000000 in
set_option maxRecDepth 100000 in
theorem zc_X7_appendText_2 (l : Launch) (D : va_G) (ct : zCT) (h0 : Nat) (aS : Nat) (aF : Nat) (aX : Nat) (th : Int) (sg : Int) (sv : Nat) (ln : Nat) (ta : Nat) (f1 : Nat) (l1 : Nat) (f2 : Nat) (l2 : Nat) (g : Nat → Int) (fz : Nat → Int) (tx : Nat → Nat) (ch : Nat) (ht : ∀ j, j < 80 → tx j < 128) (hln : ln ≤ 80) (hcc : 32 ≤ ch ∧ ch ≤ 126) (hl8 : ln = 80) : zMet l yX7_appendText wsX7_appendText ({ frames := 1, cells := 0, slots := 0, locals := 22 } : Room) D ct [.ref h0, zi ((ch : Nat) : Int)] [zO h0 6 [zi th, .ref aS, zi ((sv : Nat) : Int), .ref aF, .ref aX, zi ((ln : Nat) : Int), zi ((ta : Nat) : Int), zi sg, zi ((f1 : Nat) : Int), zi ((l1 : Nat) : Int), zi ((f2 : Nat) : Int), zi ((l2 : Nat) : Int)], zAI ct aS 3888 g, zAZ ct aF 2 fz, zAI ct aX 80 (zN tx)] (fun _ : Unit => True) (fun _ => some (zi (0))) (fun _ => [zO h0 6 [zi 2, .ref aS, zi ((sv : Nat) : Int), .ref aF, .ref aX, zi ((ln : Nat) : Int), zi ((ta : Nat) : Int), zi sg, zi ((f1 : Nat) : Int), zi ((l1 : Nat) : Int), zi ((f2 : Nat) : Int), zi ((l2 : Nat) : Int)], zAI ct aS 3888 g, zAZ ct aF 2 fz, zAI ct aX 80 (zN tx)]) 0 0 := by
  refine zMet_i (cc := cX7_appendText) (maxL := 2) (r := fun _ => 0) (by decide) rfl (Nat.le_of_ble_eq_true rfl) ?_
  intro p e s m below meth c A Q Z hnm hR
  refine z_eqs _ [(0, .ref h0), (1, zi ((ch : Nat) : Int))] _ rfl rfl rfl ?_
  refine z_aload_n Z dX7_appendText_0 0 rfl ?_
  refine z_iload_n Z dX7_appendText_1 1 rfl ?_
  refine z_bipush (v := 32) Z dX7_appendText_2 (by decide +kernel) ?_
  refine z_bipush (v := 126) Z dX7_appendText_4 (by decide +kernel) ?_
  refine z_callSu (rest := [.ref h0]) Z dX7_appendText_6 (zc_X7_in l D ct (((ch : Nat) : Int)) (32) (126) (by first | assumption | omega) (by first | assumption | omega) (by first | assumption | omega)) (va_cwS 3 Z.1.2.2.2.2 gX7_appendText_X7_in rfl rfl rfl (by decide +kernel) ⟨Nat.le_of_ble_eq_true rfl, Nat.le_of_ble_eq_true rfl⟩) rfl (Nat.le_of_ble_eq_true rfl) ⟨Nat.le_of_ble_eq_true rfl, Nat.le_of_ble_eq_true rfl⟩ [false, false, false, false] [zO h0 6 [zi th, .ref aS, zi ((sv : Nat) : Int), .ref aF, .ref aX, zi ((ln : Nat) : Int), zi ((ta : Nat) : Int), zi sg, zi ((f1 : Nat) : Int), zi ((l1 : Nat) : Int), zi ((f2 : Nat) : Int), zi ((l2 : Nat) : Int)], zAI ct aS 3888 g, zAZ ct aF 2 fz, zAI ct aX 80 (zN tx)] [zi (zb (decide (32 ≤ ((ch : Nat) : Int) ∧ ((ch : Nat) : Int) ≤ 126))), .ref h0] rfl rfl rfl rfl ?_
  refine z_ifb_ne Z 16 dX7_appendText_9 (by decide) (fun h9 => ?_) (fun h9 => ?_)
  · have h9 := of_decide_eq_true h9
    refine z_aload_n Z dX7_appendText_16 0 rfl ?_
    refine z_get Z dX7_appendText_17 zin_X7_appendText_X7 0 5 rfl rfl (by decide) zlk_X7_appendText_65 rfl ?_
    refine z_bipush (v := 80) Z dX7_appendText_20 (by decide +kernel) ?_
    refine z_icmp_ne Z 29 dX7_appendText_22 (by decide) (by omega) (by omega) (fun h22 => ?_) (fun h22 => ?_)
    · exfalso; first | contradiction | omega
    · refine z_iconst (v := 2) Z dX7_appendText_25 rfl ?_
      refine z_goto Z 30 dX7_appendText_26 (by decide) ?_
      refine z_callVu (rest := []) Z dX7_appendText_30 6 0 _ _ rfl rfl rfl (zc_X7_holds l D ct (h0) (aS) (aF) (aX) (th) (sg) (sv) (ln) (ta) (f1) (l1) (f2) (l2) (2) (by first | assumption | omega)) (cwV 1 Z.1.2.2.2.2 gX7_appendText_X7_holds rfl rfl rfl (by decide +kernel) ⟨Nat.le_of_ble_eq_true rfl, Nat.le_of_ble_eq_true rfl⟩) rfl (Nat.le_of_ble_eq_true rfl) ⟨Nat.le_of_ble_eq_true rfl, Nat.le_of_ble_eq_true rfl⟩ [true, false, false, false] [zO h0 6 [zi 2, .ref aS, zi ((sv : Nat) : Int), .ref aF, .ref aX, zi ((ln : Nat) : Int), zi ((ta : Nat) : Int), zi sg, zi ((f1 : Nat) : Int), zi ((l1 : Nat) : Int), zi ((f2 : Nat) : Int), zi ((l2 : Nat) : Int)], zAI ct aS 3888 g, zAZ ct aF 2 fz, zAI ct aX 80 (zN tx)] [zi (zb (decide (2 = 0)))] rfl rfl rfl rfl ?_
      refine z_ifb_ne Z 38 dX7_appendText_33 (by decide) (fun h33 => ?_) (fun h33 => ?_)
      · have h33 := of_decide_eq_true h33
        exfalso; first | contradiction | omega
      · have h33 := of_decide_eq_false h33
        refine z_iconst (v := 0) Z dX7_appendText_36 rfl ?_
        refine z_eqs [zO h0 6 [zi 2, .ref aS, zi ((sv : Nat) : Int), .ref aF, .ref aX, zi ((ln : Nat) : Int), zi ((ta : Nat) : Int), zi sg, zi ((f1 : Nat) : Int), zi ((l1 : Nat) : Int), zi ((f2 : Nat) : Int), zi ((l2 : Nat) : Int)], zAI ct aS 3888 g, zAZ ct aF 2 fz, zAI ct aX 80 (zN tx)] _ [zi 0] (rfl) rfl (rfl) ?_
        exact hR _ _ () trivial dX7_appendText_37
  · have h9 := of_decide_eq_false h9
    exfalso; first | contradiction | omega
theorem zlk_X7_appendText_17 : Cond.fieldLink RX7 17 "HashedDirectoryModel" "text" "[I" ∈ wsX7_appendText := by decide +kernel
set_option maxHeartbeats 4000000 in
set_option maxRecDepth 100000 in
theorem zc_X7_appendText_0 (l : Launch) (D : va_G) (ct : zCT) (h0 : Nat) (aS : Nat) (aF : Nat) (aX : Nat) (th : Int) (sg : Int) (sv : Nat) (ln : Nat) (ta : Nat) (f1 : Nat) (l1 : Nat) (f2 : Nat) (l2 : Nat) (g : Nat → Int) (fz : Nat → Int) (tx : Nat → Nat) (ch : Nat) (ht : ∀ j, j < 80 → tx j < 128) (hln : ln ≤ 80) (hcc : 32 ≤ ch ∧ ch ≤ 126) (hl8 : ln ≠ 80) : zMet l yX7_appendText wsX7_appendText ({ frames := 1, cells := 0, slots := 0, locals := 22 } : Room) D ct [.ref h0, zi ((ch : Nat) : Int)] [zO h0 6 [zi th, .ref aS, zi ((sv : Nat) : Int), .ref aF, .ref aX, zi ((ln : Nat) : Int), zi ((ta : Nat) : Int), zi sg, zi ((f1 : Nat) : Int), zi ((l1 : Nat) : Int), zi ((f2 : Nat) : Int), zi ((l2 : Nat) : Int)], zAI ct aS 3888 g, zAZ ct aF 2 fz, zAI ct aX 80 (zN tx)] (fun _ : Unit => True) (fun _ => some (zi (((ln + 1 : Nat) : Int)))) (fun _ => [zO h0 6 [zi 0, .ref aS, zi ((sv : Nat) : Int), .ref aF, .ref aX, zi ((ln + 1 : Nat) : Int), zi ((ta : Nat) : Int), zi sg, zi ((f1 : Nat) : Int), zi ((l1 : Nat) : Int), zi ((f2 : Nat) : Int), zi ((l2 : Nat) : Int)], zAI ct aS 3888 g, zAZ ct aF 2 fz, zAI ct aX 80 (zN (zU tx ln ch))]) 0 0 := by
  refine zMet_i (cc := cX7_appendText) (maxL := 2) (r := fun _ => ((ln + 1 : Nat) : Int)) (by decide) rfl (Nat.le_of_ble_eq_true rfl) ?_
  intro p e s m below meth c A Q Z hnm hR
  refine z_eqs _ [(0, .ref h0), (1, zi ((ch : Nat) : Int))] _ rfl rfl rfl ?_
  refine z_aload_n Z dX7_appendText_0 0 rfl ?_
  refine z_iload_n Z dX7_appendText_1 1 rfl ?_
  refine z_bipush (v := 32) Z dX7_appendText_2 (by decide +kernel) ?_
  refine z_bipush (v := 126) Z dX7_appendText_4 (by decide +kernel) ?_
  refine z_callSu (rest := [.ref h0]) Z dX7_appendText_6 (zc_X7_in l D ct (((ch : Nat) : Int)) (32) (126) (by first | assumption | omega) (by first | assumption | omega) (by first | assumption | omega)) (va_cwS 3 Z.1.2.2.2.2 gX7_appendText_X7_in rfl rfl rfl (by decide +kernel) ⟨Nat.le_of_ble_eq_true rfl, Nat.le_of_ble_eq_true rfl⟩) rfl (Nat.le_of_ble_eq_true rfl) ⟨Nat.le_of_ble_eq_true rfl, Nat.le_of_ble_eq_true rfl⟩ [false, false, false, false] [zO h0 6 [zi th, .ref aS, zi ((sv : Nat) : Int), .ref aF, .ref aX, zi ((ln : Nat) : Int), zi ((ta : Nat) : Int), zi sg, zi ((f1 : Nat) : Int), zi ((l1 : Nat) : Int), zi ((f2 : Nat) : Int), zi ((l2 : Nat) : Int)], zAI ct aS 3888 g, zAZ ct aF 2 fz, zAI ct aX 80 (zN tx)] [zi (zb (decide (32 ≤ ((ch : Nat) : Int) ∧ ((ch : Nat) : Int) ≤ 126))), .ref h0] rfl rfl rfl rfl ?_
  refine z_ifb_ne Z 16 dX7_appendText_9 (by decide) (fun h9 => ?_) (fun h9 => ?_)
  · have h9 := of_decide_eq_true h9
    refine z_aload_n Z dX7_appendText_16 0 rfl ?_
    refine z_get Z dX7_appendText_17 zin_X7_appendText_X7 0 5 rfl rfl (by decide) zlk_X7_appendText_65 rfl ?_
    refine z_bipush (v := 80) Z dX7_appendText_20 (by decide +kernel) ?_
    refine z_icmp_ne Z 29 dX7_appendText_22 (by decide) (by omega) (by omega) (fun h22 => ?_) (fun h22 => ?_)
    · refine z_iconst (v := 0) Z dX7_appendText_29 rfl ?_
      refine z_callVu (rest := []) Z dX7_appendText_30 6 0 _ _ rfl rfl rfl (zc_X7_holds l D ct (h0) (aS) (aF) (aX) (th) (sg) (sv) (ln) (ta) (f1) (l1) (f2) (l2) (0) (by first | assumption | omega)) (cwV 1 Z.1.2.2.2.2 gX7_appendText_X7_holds rfl rfl rfl (by decide +kernel) ⟨Nat.le_of_ble_eq_true rfl, Nat.le_of_ble_eq_true rfl⟩) rfl (Nat.le_of_ble_eq_true rfl) ⟨Nat.le_of_ble_eq_true rfl, Nat.le_of_ble_eq_true rfl⟩ [true, false, false, false] [zO h0 6 [zi 0, .ref aS, zi ((sv : Nat) : Int), .ref aF, .ref aX, zi ((ln : Nat) : Int), zi ((ta : Nat) : Int), zi sg, zi ((f1 : Nat) : Int), zi ((l1 : Nat) : Int), zi ((f2 : Nat) : Int), zi ((l2 : Nat) : Int)], zAI ct aS 3888 g, zAZ ct aF 2 fz, zAI ct aX 80 (zN tx)] [zi (zb (decide (0 = 0)))] rfl rfl rfl rfl ?_
      refine z_ifb_ne Z 38 dX7_appendText_33 (by decide) (fun h33 => ?_) (fun h33 => ?_)
      · have h33 := of_decide_eq_true h33
        refine z_aload_n Z dX7_appendText_38 0 rfl ?_
        refine z_get Z dX7_appendText_39 zin_X7_appendText_X7 0 4 rfl rfl (by decide) zlk_X7_appendText_17 rfl ?_
        refine z_aload_n Z dX7_appendText_42 0 rfl ?_
        refine z_get Z dX7_appendText_43 zin_X7_appendText_X7 0 5 rfl rfl (by decide) zlk_X7_appendText_65 rfl ?_
        refine z_iload_n Z dX7_appendText_46 1 rfl ?_
        refine z_iastN Z dX7_appendText_47 3 (ln) [zO h0 6 [zi 0, .ref aS, zi ((sv : Nat) : Int), .ref aF, .ref aX, zi ((ln : Nat) : Int), zi ((ta : Nat) : Int), zi sg, zi ((f1 : Nat) : Int), zi ((l1 : Nat) : Int), zi ((f2 : Nat) : Int), zi ((l2 : Nat) : Int)], zAI ct aS 3888 g, zAZ ct aF 2 fz, zAI ct aX 80 (zN (zU tx ln ch))] rfl (rfl) ⟨by omega, by omega⟩ rfl ?_
        refine z_aload_n Z dX7_appendText_48 0 rfl ?_
        refine z_dup Z dX7_appendText_49 rfl ?_
        refine z_get Z dX7_appendText_50 zin_X7_appendText_X7 0 5 rfl rfl (by decide) zlk_X7_appendText_65 rfl ?_
        refine z_iconst (v := 1) Z dX7_appendText_53 rfl ?_
        refine z_iadd Z dX7_appendText_54 ?_
        refine z_top (y := ((ln + 1 : Nat) : Int)) (by omega) ?_
        refine z_put (ty := .int) Z dX7_appendText_55 zin_X7_appendText_X7 tyX7 tyX7_ok nmX7 0 5 [zO h0 6 [zi 0, .ref aS, zi ((sv : Nat) : Int), .ref aF, .ref aX, zi ((ln + 1 : Nat) : Int), zi ((ta : Nat) : Int), zi sg, zi ((f1 : Nat) : Int), zi ((l1 : Nat) : Int), zi ((f2 : Nat) : Int), zi ((l2 : Nat) : Int)], zAI ct aS 3888 g, zAZ ct aF 2 fz, zAI ct aX 80 (zN (zU tx ln ch))] rfl rfl (by decide) zlk_X7_appendText_65 rfl (by decide +kernel) rfl rfl (Nat.le_of_ble_eq_true rfl) rfl ?_
        refine z_aload_n Z dX7_appendText_58 0 rfl ?_
        refine z_get Z dX7_appendText_59 zin_X7_appendText_X7 0 5 rfl rfl (by decide) zlk_X7_appendText_65 rfl ?_
        refine z_eqs [zO h0 6 [zi 0, .ref aS, zi ((sv : Nat) : Int), .ref aF, .ref aX, zi ((ln + 1 : Nat) : Int), zi ((ta : Nat) : Int), zi sg, zi ((f1 : Nat) : Int), zi ((l1 : Nat) : Int), zi ((f2 : Nat) : Int), zi ((l2 : Nat) : Int)], zAI ct aS 3888 g, zAZ ct aF 2 fz, zAI ct aX 80 (zN (zU tx ln ch))] _ [zi ((ln + 1 : Nat) : Int)] (rfl) rfl (rfl) ?_
        exact hR _ _ () trivial dX7_appendText_62
      · have h33 := of_decide_eq_false h33
        exfalso; first | contradiction | omega
    · exfalso; first | contradiction | omega
  · have h9 := of_decide_eq_false h9
    exfalso; first | contradiction | omega
theorem zin_X7_clearText_X7 : ∀ w ∈ wsX70, w ∈ wsX7_clearText := by decide +kernel
theorem zlk_X7_clearText_20 : Cond.fieldLink RX7 20 "HashedDirectoryModel" "thrown" "I" ∈ wsX7_clearText := by decide +kernel
theorem zlk_X7_clearText_65 : Cond.fieldLink RX7 65 "HashedDirectoryModel" "length" "I" ∈ wsX7_clearText := by decide +kernel
set_option maxHeartbeats 4000000 in
set_option maxRecDepth 100000 in
theorem zc_X7_clearText_0 (l : Launch) (D : va_G) (ct : zCT) (h0 : Nat) (aS : Nat) (aF : Nat) (aX : Nat) (th : Int) (sg : Int) (sv : Nat) (ln : Nat) (ta : Nat) (f1 : Nat) (l1 : Nat) (f2 : Nat) (l2 : Nat) (g : Nat → Int) (fz : Nat → Int) (tx : Nat → Nat)  : zMet l yX7_clearText wsX7_clearText ({ frames := 0, cells := 0, slots := 0, locals := 0 } : Room) D ct [.ref h0] [zO h0 6 [zi th, .ref aS, zi ((sv : Nat) : Int), .ref aF, .ref aX, zi ((ln : Nat) : Int), zi ((ta : Nat) : Int), zi sg, zi ((f1 : Nat) : Int), zi ((l1 : Nat) : Int), zi ((f2 : Nat) : Int), zi ((l2 : Nat) : Int)], zAI ct aS 3888 g, zAZ ct aF 2 fz, zAI ct aX 80 (zN tx)] (fun _ : Unit => True) (fun _ => some (zi (((ln : Nat) : Int)))) (fun _ => [zO h0 6 [zi 0, .ref aS, zi ((sv : Nat) : Int), .ref aF, .ref aX, zi 0, zi ((ta : Nat) : Int), zi sg, zi ((f1 : Nat) : Int), zi ((l1 : Nat) : Int), zi ((f2 : Nat) : Int), zi ((l2 : Nat) : Int)], zAI ct aS 3888 g, zAZ ct aF 2 fz, zAI ct aX 80 (zN tx)]) 0 0 := by
  refine zMet_i (cc := cX7_clearText) (maxL := 2) (r := fun _ => ((ln : Nat) : Int)) (by decide) rfl (Nat.le_of_ble_eq_true rfl) ?_
  intro p e s m below meth c A Q Z hnm hR
  refine z_eqs _ [(0, .ref h0)] _ rfl rfl rfl ?_
  refine z_aload_n Z dX7_clearText_0 0 rfl ?_
  refine z_iconst (v := 0) Z dX7_clearText_1 rfl ?_
  refine z_put (ty := .int) Z dX7_clearText_2 zin_X7_clearText_X7 tyX7 tyX7_ok nmX7 0 0 [zO h0 6 [zi 0, .ref aS, zi ((sv : Nat) : Int), .ref aF, .ref aX, zi ((ln : Nat) : Int), zi ((ta : Nat) : Int), zi sg, zi ((f1 : Nat) : Int), zi ((l1 : Nat) : Int), zi ((f2 : Nat) : Int), zi ((l2 : Nat) : Int)], zAI ct aS 3888 g, zAZ ct aF 2 fz, zAI ct aX 80 (zN tx)] rfl rfl (by decide) zlk_X7_clearText_20 rfl (by decide +kernel) rfl rfl (Nat.le_of_ble_eq_true rfl) rfl ?_
  refine z_aload_n Z dX7_clearText_5 0 rfl ?_
  refine z_get Z dX7_clearText_6 zin_X7_clearText_X7 0 5 rfl rfl (by decide) zlk_X7_clearText_65 rfl ?_
  refine z_istore_n Z dX7_clearText_9 [(1, zi ((ln : Nat) : Int)), (0, .ref h0)] (by decide) rfl ?_
  refine z_aload_n Z dX7_clearText_10 1 rfl ?_
  refine z_iconst (v := 0) Z dX7_clearText_11 rfl ?_
  refine z_put (ty := .int) Z dX7_clearText_12 zin_X7_clearText_X7 tyX7 tyX7_ok nmX7 0 5 [zO h0 6 [zi 0, .ref aS, zi ((sv : Nat) : Int), .ref aF, .ref aX, zi 0, zi ((ta : Nat) : Int), zi sg, zi ((f1 : Nat) : Int), zi ((l1 : Nat) : Int), zi ((f2 : Nat) : Int), zi ((l2 : Nat) : Int)], zAI ct aS 3888 g, zAZ ct aF 2 fz, zAI ct aX 80 (zN tx)] rfl rfl (by decide) zlk_X7_clearText_65 rfl (by decide +kernel) rfl rfl (Nat.le_of_ble_eq_true rfl) rfl ?_
  refine z_iload_n Z dX7_clearText_15 0 rfl ?_
  refine z_eqs [zO h0 6 [zi 0, .ref aS, zi ((sv : Nat) : Int), .ref aF, .ref aX, zi 0, zi ((ta : Nat) : Int), zi sg, zi ((f1 : Nat) : Int), zi ((l1 : Nat) : Int), zi ((f2 : Nat) : Int), zi ((l2 : Nat) : Int)], zAI ct aS 3888 g, zAZ ct aF 2 fz, zAI ct aX 80 (zN tx)] _ [zi ((ln : Nat) : Int)] (rfl) rfl (rfl) ?_
  exact hR _ _ () trivial dX7_clearText_16
theorem zin_X7_undo_X7 : ∀ w ∈ wsX70, w ∈ wsX7_undo := by decide +kernel
theorem zlk_X7_undo_58 : Cond.fieldLink RX7 58 "HashedDirectoryModel" "saved" "I" ∈ wsX7_undo := by decide +kernel
set_option maxHeartbeats 4000000 in
set_option maxRecDepth 100000 in
theorem zc_X7_undo_1 (l : Launch) (D : va_G) (ct : zCT) (h0 : Nat) (aS : Nat) (aF : Nat) (aX : Nat) (th : Int) (sg : Int) (sv : Nat) (ln : Nat) (ta : Nat) (f1 : Nat) (l1 : Nat) (f2 : Nat) (l2 : Nat) (g : Nat → Int) (fz : Nat → Int) (tx : Nat → Nat) (hsv : sv = 0) : zMet l yX7_undo wsX7_undo ({ frames := 1, cells := 0, slots := 0, locals := 21 } : Room) D ct [.ref h0] [zO h0 6 [zi th, .ref aS, zi ((sv : Nat) : Int), .ref aF, .ref aX, zi ((ln : Nat) : Int), zi ((ta : Nat) : Int), zi sg, zi ((f1 : Nat) : Int), zi ((l1 : Nat) : Int), zi ((f2 : Nat) : Int), zi ((l2 : Nat) : Int)], zAI ct aS 3888 g, zAZ ct aF 2 fz, zAI ct aX 80 (zN tx)] (fun _ : Unit => True) (fun _ => some (zi (0))) (fun _ => [zO h0 6 [zi 1, .ref aS, zi ((sv : Nat) : Int), .ref aF, .ref aX, zi ((ln : Nat) : Int), zi ((ta : Nat) : Int), zi sg, zi ((f1 : Nat) : Int), zi ((l1 : Nat) : Int), zi ((f2 : Nat) : Int), zi ((l2 : Nat) : Int)], zAI ct aS 3888 g, zAZ ct aF 2 fz, zAI ct aX 80 (zN tx)]) 0 0 := by
  refine zMet_i (cc := cX7_undo) (maxL := 1) (r := fun _ => 0) (by decide) rfl (Nat.le_of_ble_eq_true rfl) ?_
  intro p e s m below meth c A Q Z hnm hR
  refine z_eqs _ [(0, .ref h0)] _ rfl rfl rfl ?_
  refine z_aload_n Z dX7_undo_0 0 rfl ?_
  refine z_aload_n Z dX7_undo_1 0 rfl ?_
  refine z_get Z dX7_undo_2 zin_X7_undo_X7 0 2 rfl rfl (by decide) zlk_X7_undo_58 rfl ?_
  refine z_if_le Z 12 dX7_undo_5 (by decide) (by omega) (fun h5 => ?_) (fun h5 => ?_)
  · refine z_iconst (v := 1) Z dX7_undo_12 rfl ?_
    refine z_callVu (rest := []) Z dX7_undo_13 6 0 _ _ rfl rfl rfl (zc_X7_holds l D ct (h0) (aS) (aF) (aX) (th) (sg) (sv) (ln) (ta) (f1) (l1) (f2) (l2) (1) (by first | assumption | omega)) (cwV 1 Z.1.2.2.2.2 gX7_undo_X7_holds rfl rfl rfl (by decide +kernel) ⟨Nat.le_of_ble_eq_true rfl, Nat.le_of_ble_eq_true rfl⟩) rfl (Nat.le_of_ble_eq_true rfl) ⟨Nat.le_of_ble_eq_true rfl, Nat.le_of_ble_eq_true rfl⟩ [true, false, false, false] [zO h0 6 [zi 1, .ref aS, zi ((sv : Nat) : Int), .ref aF, .ref aX, zi ((ln : Nat) : Int), zi ((ta : Nat) : Int), zi sg, zi ((f1 : Nat) : Int), zi ((l1 : Nat) : Int), zi ((f2 : Nat) : Int), zi ((l2 : Nat) : Int)], zAI ct aS 3888 g, zAZ ct aF 2 fz, zAI ct aX 80 (zN tx)] [zi (zb (decide (1 = 0)))] rfl rfl rfl rfl ?_
    refine z_ifb_ne Z 21 dX7_undo_16 (by decide) (fun h16 => ?_) (fun h16 => ?_)
    · have h16 := of_decide_eq_true h16
      exfalso; first | contradiction | omega
    · have h16 := of_decide_eq_false h16
      refine z_iconst (v := 0) Z dX7_undo_19 rfl ?_
      refine z_eqs [zO h0 6 [zi 1, .ref aS, zi ((sv : Nat) : Int), .ref aF, .ref aX, zi ((ln : Nat) : Int), zi ((ta : Nat) : Int), zi sg, zi ((f1 : Nat) : Int), zi ((l1 : Nat) : Int), zi ((f2 : Nat) : Int), zi ((l2 : Nat) : Int)], zAI ct aS 3888 g, zAZ ct aF 2 fz, zAI ct aX 80 (zN tx)] _ [zi 0] (rfl) rfl (rfl) ?_
      exact hR _ _ () trivial dX7_undo_20
  · exfalso; first | contradiction | omega
set_option maxHeartbeats 4000000 in
set_option maxRecDepth 100000 in
theorem zc_X7_undo_0 (l : Launch) (D : va_G) (ct : zCT) (h0 : Nat) (aS : Nat) (aF : Nat) (aX : Nat) (th : Int) (sg : Int) (sv : Nat) (ln : Nat) (ta : Nat) (f1 : Nat) (l1 : Nat) (f2 : Nat) (l2 : Nat) (g : Nat → Int) (fz : Nat → Int) (tx : Nat → Nat) (hsv : sv ≤ 6) (hs1 : 0 < sv) : zMet l yX7_undo wsX7_undo ({ frames := 1, cells := 0, slots := 0, locals := 23 } : Room) D ct [.ref h0] [zO h0 6 [zi th, .ref aS, zi ((sv : Nat) : Int), .ref aF, .ref aX, zi ((ln : Nat) : Int), zi ((ta : Nat) : Int), zi sg, zi ((f1 : Nat) : Int), zi ((l1 : Nat) : Int), zi ((f2 : Nat) : Int), zi ((l2 : Nat) : Int)], zAI ct aS 3888 g, zAZ ct aF 2 fz, zAI ct aX 80 (zN tx)] (fun _ : Unit => True) (fun _ => some (zi (((sv - 1 : Nat) : Int)))) (fun _ => [zO h0 6 [zi 0, .ref aS, zi ((sv - 1 : Nat) : Int), .ref aF, .ref aX, zi ((ln : Nat) : Int), zi ((ta : Nat) : Int), zi sg, zi ((f1 : Nat) : Int), zi ((l1 : Nat) : Int), zi ((f2 : Nat) : Int), zi ((l2 : Nat) : Int)], zAI ct aS 3888 (cpF g sv 0 432), zAZ ct aF 2 fz, zAI ct aX 80 (zN tx)]) 0 0 := by
  refine zMet_i (cc := cX7_undo) (maxL := 1) (r := fun _ => ((sv - 1 : Nat) : Int)) (by decide) rfl (Nat.le_of_ble_eq_true rfl) ?_
  intro p e s m below meth c A Q Z hnm hR
  refine z_eqs _ [(0, .ref h0)] _ rfl rfl rfl ?_
  refine z_aload_n Z dX7_undo_0 0 rfl ?_
  refine z_aload_n Z dX7_undo_1 0 rfl ?_
  refine z_get Z dX7_undo_2 zin_X7_undo_X7 0 2 rfl rfl (by decide) zlk_X7_undo_58 rfl ?_
  refine z_if_le Z 12 dX7_undo_5 (by decide) (by omega) (fun h5 => ?_) (fun h5 => ?_)
  · exfalso; first | contradiction | omega
  · refine z_iconst (v := 0) Z dX7_undo_8 rfl ?_
    refine z_goto Z 13 dX7_undo_9 (by decide) ?_
    refine z_callVu (rest := []) Z dX7_undo_13 6 0 _ _ rfl rfl rfl (zc_X7_holds l D ct (h0) (aS) (aF) (aX) (th) (sg) (sv) (ln) (ta) (f1) (l1) (f2) (l2) (0) (by first | assumption | omega)) (cwV 1 Z.1.2.2.2.2 gX7_undo_X7_holds rfl rfl rfl (by decide +kernel) ⟨Nat.le_of_ble_eq_true rfl, Nat.le_of_ble_eq_true rfl⟩) rfl (Nat.le_of_ble_eq_true rfl) ⟨Nat.le_of_ble_eq_true rfl, Nat.le_of_ble_eq_true rfl⟩ [true, false, false, false] [zO h0 6 [zi 0, .ref aS, zi ((sv : Nat) : Int), .ref aF, .ref aX, zi ((ln : Nat) : Int), zi ((ta : Nat) : Int), zi sg, zi ((f1 : Nat) : Int), zi ((l1 : Nat) : Int), zi ((f2 : Nat) : Int), zi ((l2 : Nat) : Int)], zAI ct aS 3888 g, zAZ ct aF 2 fz, zAI ct aX 80 (zN tx)] [zi (zb (decide (0 = 0)))] rfl rfl rfl rfl ?_
    refine z_ifb_ne Z 21 dX7_undo_16 (by decide) (fun h16 => ?_) (fun h16 => ?_)
    · have h16 := of_decide_eq_true h16
      refine z_aload_n Z dX7_undo_21 0 rfl ?_
      refine z_aload_n Z dX7_undo_22 0 rfl ?_
      refine z_get Z dX7_undo_23 zin_X7_undo_X7 0 2 rfl rfl (by decide) zlk_X7_undo_58 rfl ?_
      refine z_iconst (v := 0) Z dX7_undo_26 rfl ?_
      refine z_callVu (rest := []) Z dX7_undo_27 6 0 _ _ rfl rfl rfl (zc_X7_copies l D ct (h0) (aS) (aF) (aX) (0) (sg) (sv) (ln) (ta) (f1) (l1) (f2) (l2) (g) (sv) (0) (by first | assumption | omega) (by first | assumption | omega) (by first | assumption | omega)) (cwV 2 Z.1.2.2.2.2 gX7_undo_X7_copies rfl rfl rfl (by decide +kernel) ⟨Nat.le_of_ble_eq_true rfl, Nat.le_of_ble_eq_true rfl⟩) rfl (Nat.le_of_ble_eq_true rfl) ⟨Nat.le_of_ble_eq_true rfl, Nat.le_of_ble_eq_true rfl⟩ [true, true, false, false] [zO h0 6 [zi 0, .ref aS, zi ((sv : Nat) : Int), .ref aF, .ref aX, zi ((ln : Nat) : Int), zi ((ta : Nat) : Int), zi sg, zi ((f1 : Nat) : Int), zi ((l1 : Nat) : Int), zi ((f2 : Nat) : Int), zi ((l2 : Nat) : Int)], zAI ct aS 3888 (cpF g sv 0 432), zAZ ct aF 2 fz, zAI ct aX 80 (zN tx)] [] rfl rfl rfl rfl ?_
      refine z_aload_n Z dX7_undo_30 0 rfl ?_
      refine z_dup Z dX7_undo_31 rfl ?_
      refine z_get Z dX7_undo_32 zin_X7_undo_X7 0 2 rfl rfl (by decide) zlk_X7_undo_58 rfl ?_
      refine z_iconst (v := 1) Z dX7_undo_35 rfl ?_
      refine z_isub Z dX7_undo_36 ?_
      refine z_top (y := ((sv - 1 : Nat) : Int)) (by omega) ?_
      refine z_put (ty := .int) Z dX7_undo_37 zin_X7_undo_X7 tyX7 tyX7_ok nmX7 0 2 [zO h0 6 [zi 0, .ref aS, zi ((sv - 1 : Nat) : Int), .ref aF, .ref aX, zi ((ln : Nat) : Int), zi ((ta : Nat) : Int), zi sg, zi ((f1 : Nat) : Int), zi ((l1 : Nat) : Int), zi ((f2 : Nat) : Int), zi ((l2 : Nat) : Int)], zAI ct aS 3888 (cpF g sv 0 432), zAZ ct aF 2 fz, zAI ct aX 80 (zN tx)] rfl rfl (by decide) zlk_X7_undo_58 rfl (by decide +kernel) rfl rfl (Nat.le_of_ble_eq_true rfl) rfl ?_
      refine z_aload_n Z dX7_undo_40 0 rfl ?_
      refine z_get Z dX7_undo_41 zin_X7_undo_X7 0 2 rfl rfl (by decide) zlk_X7_undo_58 rfl ?_
      refine z_eqs [zO h0 6 [zi 0, .ref aS, zi ((sv - 1 : Nat) : Int), .ref aF, .ref aX, zi ((ln : Nat) : Int), zi ((ta : Nat) : Int), zi sg, zi ((f1 : Nat) : Int), zi ((l1 : Nat) : Int), zi ((f2 : Nat) : Int), zi ((l2 : Nat) : Int)], zAI ct aS 3888 (cpF g sv 0 432), zAZ ct aF 2 fz, zAI ct aX 80 (zN tx)] _ [zi ((sv - 1 : Nat) : Int)] (rfl) rfl (rfl) ?_
      exact hR _ _ () trivial dX7_undo_44
    · have h16 := of_decide_eq_false h16
      exfalso; first | contradiction | omega
set_option maxHeartbeats 4000000 in
set_option maxRecDepth 100000 in
theorem zc_X7_save_1 (l : Launch) (D : va_G) (ct : zCT) (h0 : Nat) (aS : Nat) (aF : Nat) (aX : Nat) (th : Int) (sg : Int) (sv : Nat) (ln : Nat) (ta : Nat) (f1 : Nat) (l1 : Nat) (f2 : Nat) (l2 : Nat) (g : Nat → Int) (fz : Nat → Int) (tx : Nat → Nat) (k : Int) (hk : -2147483648 ≤ k ∧ k < 2147483648) (hkk : ¬ (0 ≤ k ∧ k ≤ 1)) : zMet l yX7_save wsX7_save ({ frames := 1, cells := 0, slots := 0, locals := 22 } : Room) D ct [.ref h0, zi k] [zO h0 6 [zi th, .ref aS, zi ((sv : Nat) : Int), .ref aF, .ref aX, zi ((ln : Nat) : Int), zi ((ta : Nat) : Int), zi sg, zi ((f1 : Nat) : Int), zi ((l1 : Nat) : Int), zi ((f2 : Nat) : Int), zi ((l2 : Nat) : Int)], zAI ct aS 3888 g, zAZ ct aF 2 fz, zAI ct aX 80 (zN tx)] (fun _ : Unit => True) (fun _ => some (zi (0))) (fun _ => [zO h0 6 [zi 1, .ref aS, zi ((sv : Nat) : Int), .ref aF, .ref aX, zi ((ln : Nat) : Int), zi ((ta : Nat) : Int), zi sg, zi ((f1 : Nat) : Int), zi ((l1 : Nat) : Int), zi ((f2 : Nat) : Int), zi ((l2 : Nat) : Int)], zAI ct aS 3888 g, zAZ ct aF 2 fz, zAI ct aX 80 (zN tx)]) 0 0 := by
  refine zMet_i (cc := cX7_save) (maxL := 2) (r := fun _ => 0) (by decide) rfl (Nat.le_of_ble_eq_true rfl) ?_
  intro p e s m below meth c A Q Z hnm hR
  refine z_eqs _ [(0, .ref h0), (1, zi k)] _ rfl rfl rfl ?_
  refine z_aload_n Z dX7_save_0 0 rfl ?_
  refine z_iload_n Z dX7_save_1 1 rfl ?_
  refine z_iconst (v := 0) Z dX7_save_2 rfl ?_
  refine z_iconst (v := 1) Z dX7_save_3 rfl ?_
  refine z_callSu (rest := [.ref h0]) Z dX7_save_4 (zc_X7_in l D ct (k) (0) (1) (by first | assumption | omega) (by first | assumption | omega) (by first | assumption | omega)) (va_cwS 3 Z.1.2.2.2.2 gX7_save_X7_in rfl rfl rfl (by decide +kernel) ⟨Nat.le_of_ble_eq_true rfl, Nat.le_of_ble_eq_true rfl⟩) rfl (Nat.le_of_ble_eq_true rfl) ⟨Nat.le_of_ble_eq_true rfl, Nat.le_of_ble_eq_true rfl⟩ [false, false, false, false] [zO h0 6 [zi th, .ref aS, zi ((sv : Nat) : Int), .ref aF, .ref aX, zi ((ln : Nat) : Int), zi ((ta : Nat) : Int), zi sg, zi ((f1 : Nat) : Int), zi ((l1 : Nat) : Int), zi ((f2 : Nat) : Int), zi ((l2 : Nat) : Int)], zAI ct aS 3888 g, zAZ ct aF 2 fz, zAI ct aX 80 (zN tx)] [zi (zb (decide (0 ≤ k ∧ k ≤ 1))), .ref h0] rfl rfl rfl rfl ?_
  refine z_ifb_eq Z 14 dX7_save_7 (by decide) (fun h7 => ?_) (fun h7 => ?_)
  · have h7 := of_decide_eq_false h7
    refine z_iconst (v := 1) Z dX7_save_14 rfl ?_
    refine z_callVu (rest := []) Z dX7_save_15 6 0 _ _ rfl rfl rfl (zc_X7_holds l D ct (h0) (aS) (aF) (aX) (th) (sg) (sv) (ln) (ta) (f1) (l1) (f2) (l2) (1) (by first | assumption | omega)) (cwV 1 Z.1.2.2.2.2 gX7_save_X7_holds rfl rfl rfl (by decide +kernel) ⟨Nat.le_of_ble_eq_true rfl, Nat.le_of_ble_eq_true rfl⟩) rfl (Nat.le_of_ble_eq_true rfl) ⟨Nat.le_of_ble_eq_true rfl, Nat.le_of_ble_eq_true rfl⟩ [true, false, false, false] [zO h0 6 [zi 1, .ref aS, zi ((sv : Nat) : Int), .ref aF, .ref aX, zi ((ln : Nat) : Int), zi ((ta : Nat) : Int), zi sg, zi ((f1 : Nat) : Int), zi ((l1 : Nat) : Int), zi ((f2 : Nat) : Int), zi ((l2 : Nat) : Int)], zAI ct aS 3888 g, zAZ ct aF 2 fz, zAI ct aX 80 (zN tx)] [zi (zb (decide (1 = 0)))] rfl rfl rfl rfl ?_
    refine z_ifb_ne Z 23 dX7_save_18 (by decide) (fun h18 => ?_) (fun h18 => ?_)
    · have h18 := of_decide_eq_true h18
      exfalso; first | contradiction | omega
    · have h18 := of_decide_eq_false h18
      refine z_iconst (v := 0) Z dX7_save_21 rfl ?_
      refine z_eqs [zO h0 6 [zi 1, .ref aS, zi ((sv : Nat) : Int), .ref aF, .ref aX, zi ((ln : Nat) : Int), zi ((ta : Nat) : Int), zi sg, zi ((f1 : Nat) : Int), zi ((l1 : Nat) : Int), zi ((f2 : Nat) : Int), zi ((l2 : Nat) : Int)], zAI ct aS 3888 g, zAZ ct aF 2 fz, zAI ct aX 80 (zN tx)] _ [zi 0] (rfl) rfl (rfl) ?_
      exact hR _ _ () trivial dX7_save_22
  · have h7 := of_decide_eq_true h7
    exfalso; first | contradiction | omega
theorem zin_X7_save_X7 : ∀ w ∈ wsX70, w ∈ wsX7_save := by decide +kernel
theorem zlk_X7_save_13 : Cond.fieldLink RX7 13 "HashedDirectoryModel" "isFilled" "[Z" ∈ wsX7_save := by decide +kernel
theorem zlk_X7_save_7 : Cond.fieldLink RX7 7 "HashedDirectoryModel" "s" "[I" ∈ wsX7_save := by decide +kernel
set_option maxHeartbeats 4000000 in
set_option maxRecDepth 100000 in
theorem zc_X7_save_0 (l : Launch) (D : va_G) (ct : zCT) (h0 : Nat) (aS : Nat) (aF : Nat) (aX : Nat) (th : Int) (sg : Int) (sv : Nat) (ln : Nat) (ta : Nat) (f1 : Nat) (l1 : Nat) (f2 : Nat) (l2 : Nat) (g : Nat → Int) (fz : Nat → Int) (tx : Nat → Nat) (cnt : Nat) (k : Nat) (hcn : g 0 = ((cnt : Nat) : Int)) (hc : cnt ≤ 40) (hg : ∀ k, k < 432 → -2 ≤ g k ∧ g k < 70000) (hkk : k < 2) : zMet l yX7_save wsX7_save ({ frames := 1, cells := 0, slots := 0, locals := 23 } : Room) D ct [.ref h0, zi ((k : Nat) : Int)] [zO h0 6 [zi th, .ref aS, zi ((sv : Nat) : Int), .ref aF, .ref aX, zi ((ln : Nat) : Int), zi ((ta : Nat) : Int), zi sg, zi ((f1 : Nat) : Int), zi ((l1 : Nat) : Int), zi ((f2 : Nat) : Int), zi ((l2 : Nat) : Int)], zAI ct aS 3888 g, zAZ ct aF 2 fz, zAI ct aX 80 (zN tx)] (fun _ : Unit => True) (fun _ => some (zi ((g 0)))) (fun _ => [zO h0 6 [zi 0, .ref aS, zi ((sv : Nat) : Int), .ref aF, .ref aX, zi ((ln : Nat) : Int), zi ((ta : Nat) : Int), zi sg, zi ((f1 : Nat) : Int), zi ((l1 : Nat) : Int), zi ((f2 : Nat) : Int), zi ((l2 : Nat) : Int)], zAI ct aS 3888 (cpF g 0 (7 + k) 432), zAZ ct aF 2 (zU fz k 1), zAI ct aX 80 (zN tx)]) 0 0 := by
  refine zMet_i (cc := cX7_save) (maxL := 2) (r := fun _ => (g 0)) (by decide) rfl (Nat.le_of_ble_eq_true rfl) ?_
  intro p e s m below meth c A Q Z hnm hR
  refine z_eqs _ [(0, .ref h0), (1, zi ((k : Nat) : Int))] _ rfl rfl rfl ?_
  refine z_aload_n Z dX7_save_0 0 rfl ?_
  refine z_iload_n Z dX7_save_1 1 rfl ?_
  refine z_iconst (v := 0) Z dX7_save_2 rfl ?_
  refine z_iconst (v := 1) Z dX7_save_3 rfl ?_
  refine z_callSu (rest := [.ref h0]) Z dX7_save_4 (zc_X7_in l D ct (((k : Nat) : Int)) (0) (1) (by first | assumption | omega) (by first | assumption | omega) (by first | assumption | omega)) (va_cwS 3 Z.1.2.2.2.2 gX7_save_X7_in rfl rfl rfl (by decide +kernel) ⟨Nat.le_of_ble_eq_true rfl, Nat.le_of_ble_eq_true rfl⟩) rfl (Nat.le_of_ble_eq_true rfl) ⟨Nat.le_of_ble_eq_true rfl, Nat.le_of_ble_eq_true rfl⟩ [false, false, false, false] [zO h0 6 [zi th, .ref aS, zi ((sv : Nat) : Int), .ref aF, .ref aX, zi ((ln : Nat) : Int), zi ((ta : Nat) : Int), zi sg, zi ((f1 : Nat) : Int), zi ((l1 : Nat) : Int), zi ((f2 : Nat) : Int), zi ((l2 : Nat) : Int)], zAI ct aS 3888 g, zAZ ct aF 2 fz, zAI ct aX 80 (zN tx)] [zi (zb (decide (0 ≤ ((k : Nat) : Int) ∧ ((k : Nat) : Int) ≤ 1))), .ref h0] rfl rfl rfl rfl ?_
  refine z_ifb_eq Z 14 dX7_save_7 (by decide) (fun h7 => ?_) (fun h7 => ?_)
  · have h7 := of_decide_eq_false h7
    exfalso; first | contradiction | omega
  · have h7 := of_decide_eq_true h7
    refine z_iconst (v := 0) Z dX7_save_10 rfl ?_
    refine z_goto Z 15 dX7_save_11 (by decide) ?_
    refine z_callVu (rest := []) Z dX7_save_15 6 0 _ _ rfl rfl rfl (zc_X7_holds l D ct (h0) (aS) (aF) (aX) (th) (sg) (sv) (ln) (ta) (f1) (l1) (f2) (l2) (0) (by first | assumption | omega)) (cwV 1 Z.1.2.2.2.2 gX7_save_X7_holds rfl rfl rfl (by decide +kernel) ⟨Nat.le_of_ble_eq_true rfl, Nat.le_of_ble_eq_true rfl⟩) rfl (Nat.le_of_ble_eq_true rfl) ⟨Nat.le_of_ble_eq_true rfl, Nat.le_of_ble_eq_true rfl⟩ [true, false, false, false] [zO h0 6 [zi 0, .ref aS, zi ((sv : Nat) : Int), .ref aF, .ref aX, zi ((ln : Nat) : Int), zi ((ta : Nat) : Int), zi sg, zi ((f1 : Nat) : Int), zi ((l1 : Nat) : Int), zi ((f2 : Nat) : Int), zi ((l2 : Nat) : Int)], zAI ct aS 3888 g, zAZ ct aF 2 fz, zAI ct aX 80 (zN tx)] [zi (zb (decide (0 = 0)))] rfl rfl rfl rfl ?_
    refine z_ifb_ne Z 23 dX7_save_18 (by decide) (fun h18 => ?_) (fun h18 => ?_)
    · have h18 := of_decide_eq_true h18
      refine z_aload_n Z dX7_save_23 0 rfl ?_
      refine z_iconst (v := 0) Z dX7_save_24 rfl ?_
      refine z_bipush (v := 7) Z dX7_save_25 (by decide +kernel) ?_
      refine z_iload_n Z dX7_save_27 1 rfl ?_
      refine z_iadd Z dX7_save_28 ?_
      refine z_top (y := ((7 + k : Nat) : Int)) (by omega) ?_
      refine z_callVu (rest := []) Z dX7_save_29 6 0 _ _ rfl rfl rfl (zc_X7_copies l D ct (h0) (aS) (aF) (aX) (0) (sg) (sv) (ln) (ta) (f1) (l1) (f2) (l2) (g) (0) (7 + k) (by first | assumption | omega) (by first | assumption | omega) (by first | assumption | omega)) (cwV 2 Z.1.2.2.2.2 gX7_save_X7_copies rfl rfl rfl (by decide +kernel) ⟨Nat.le_of_ble_eq_true rfl, Nat.le_of_ble_eq_true rfl⟩) rfl (Nat.le_of_ble_eq_true rfl) ⟨Nat.le_of_ble_eq_true rfl, Nat.le_of_ble_eq_true rfl⟩ [true, true, false, false] [zO h0 6 [zi 0, .ref aS, zi ((sv : Nat) : Int), .ref aF, .ref aX, zi ((ln : Nat) : Int), zi ((ta : Nat) : Int), zi sg, zi ((f1 : Nat) : Int), zi ((l1 : Nat) : Int), zi ((f2 : Nat) : Int), zi ((l2 : Nat) : Int)], zAI ct aS 3888 (cpF g 0 (7 + k) 432), zAZ ct aF 2 fz, zAI ct aX 80 (zN tx)] [] rfl rfl rfl rfl ?_
      refine z_aload_n Z dX7_save_32 0 rfl ?_
      refine z_get Z dX7_save_33 zin_X7_save_X7 0 3 rfl rfl (by decide) zlk_X7_save_13 rfl ?_
      refine z_iload_n Z dX7_save_36 1 rfl ?_
      refine z_iconst (v := 1) Z dX7_save_37 rfl ?_
      refine z_zast Z dX7_save_38 2 (k) [zO h0 6 [zi 0, .ref aS, zi ((sv : Nat) : Int), .ref aF, .ref aX, zi ((ln : Nat) : Int), zi ((ta : Nat) : Int), zi sg, zi ((f1 : Nat) : Int), zi ((l1 : Nat) : Int), zi ((f2 : Nat) : Int), zi ((l2 : Nat) : Int)], zAI ct aS 3888 (cpF g 0 (7 + k) 432), zAZ ct aF 2 (zU fz k 1), zAI ct aX 80 (zN tx)] rfl (rfl) ⟨by omega, by omega⟩ rfl rfl ?_
      refine z_aload_n Z dX7_save_39 0 rfl ?_
      refine z_get Z dX7_save_40 zin_X7_save_X7 0 1 rfl rfl (by decide) zlk_X7_save_7 rfl ?_
      refine z_iconst (v := 0) Z dX7_save_43 rfl ?_
      refine z_iald Z dX7_save_44 1 (0) rfl (by omega) ⟨by omega, by omega⟩ ?_
      refine z_top (y := (g 0)) ((cpF_lo g 0 (by omega) (by omega)).symm) ?_
      refine z_eqs [zO h0 6 [zi 0, .ref aS, zi ((sv : Nat) : Int), .ref aF, .ref aX, zi ((ln : Nat) : Int), zi ((ta : Nat) : Int), zi sg, zi ((f1 : Nat) : Int), zi ((l1 : Nat) : Int), zi ((f2 : Nat) : Int), zi ((l2 : Nat) : Int)], zAI ct aS 3888 (cpF g 0 (7 + k) 432), zAZ ct aF 2 (zU fz k 1), zAI ct aX 80 (zN tx)] _ [zi (g 0)] (rfl) rfl (rfl) ?_
      exact hR _ _ () trivial dX7_save_45
    · have h18 := of_decide_eq_false h18
      exfalso; first | contradiction | omega
set_option maxHeartbeats 4000000 in
set_option maxRecDepth 100000 in
theorem zc_X7_restore_1 (l : Launch) (D : va_G) (ct : zCT) (h0 : Nat) (aS : Nat) (aF : Nat) (aX : Nat) (th : Int) (sg : Int) (sv : Nat) (ln : Nat) (ta : Nat) (f1 : Nat) (l1 : Nat) (f2 : Nat) (l2 : Nat) (g : Nat → Int) (fz : Nat → Int) (tx : Nat → Nat) (k : Int) (hk : -2147483648 ≤ k ∧ k < 2147483648) (hkk : ¬ (0 ≤ k ∧ k ≤ 1)) : zMet l yX7_restore wsX7_restore ({ frames := 1, cells := 0, slots := 0, locals := 22 } : Room) D ct [.ref h0, zi k] [zO h0 6 [zi th, .ref aS, zi ((sv : Nat) : Int), .ref aF, .ref aX, zi ((ln : Nat) : Int), zi ((ta : Nat) : Int), zi sg, zi ((f1 : Nat) : Int), zi ((l1 : Nat) : Int), zi ((f2 : Nat) : Int), zi ((l2 : Nat) : Int)], zAI ct aS 3888 g, zAZ ct aF 2 fz, zAI ct aX 80 (zN tx)] (fun _ : Unit => True) (fun _ => some (zi (0))) (fun _ => [zO h0 6 [zi 1, .ref aS, zi ((sv : Nat) : Int), .ref aF, .ref aX, zi ((ln : Nat) : Int), zi ((ta : Nat) : Int), zi sg, zi ((f1 : Nat) : Int), zi ((l1 : Nat) : Int), zi ((f2 : Nat) : Int), zi ((l2 : Nat) : Int)], zAI ct aS 3888 g, zAZ ct aF 2 fz, zAI ct aX 80 (zN tx)]) 0 0 := by
  refine zMet_i (cc := cX7_restore) (maxL := 2) (r := fun _ => 0) (by decide) rfl (Nat.le_of_ble_eq_true rfl) ?_
  intro p e s m below meth c A Q Z hnm hR
  refine z_eqs _ [(0, .ref h0), (1, zi k)] _ rfl rfl rfl ?_
  refine z_aload_n Z dX7_restore_0 0 rfl ?_
  refine z_iload_n Z dX7_restore_1 1 rfl ?_
  refine z_iconst (v := 0) Z dX7_restore_2 rfl ?_
  refine z_iconst (v := 1) Z dX7_restore_3 rfl ?_
  refine z_callSu (rest := [.ref h0]) Z dX7_restore_4 (zc_X7_in l D ct (k) (0) (1) (by first | assumption | omega) (by first | assumption | omega) (by first | assumption | omega)) (va_cwS 3 Z.1.2.2.2.2 gX7_restore_X7_in rfl rfl rfl (by decide +kernel) ⟨Nat.le_of_ble_eq_true rfl, Nat.le_of_ble_eq_true rfl⟩) rfl (Nat.le_of_ble_eq_true rfl) ⟨Nat.le_of_ble_eq_true rfl, Nat.le_of_ble_eq_true rfl⟩ [false, false, false, false] [zO h0 6 [zi th, .ref aS, zi ((sv : Nat) : Int), .ref aF, .ref aX, zi ((ln : Nat) : Int), zi ((ta : Nat) : Int), zi sg, zi ((f1 : Nat) : Int), zi ((l1 : Nat) : Int), zi ((f2 : Nat) : Int), zi ((l2 : Nat) : Int)], zAI ct aS 3888 g, zAZ ct aF 2 fz, zAI ct aX 80 (zN tx)] [zi (zb (decide (0 ≤ k ∧ k ≤ 1))), .ref h0] rfl rfl rfl rfl ?_
  refine z_ifb_ne Z 14 dX7_restore_7 (by decide) (fun h7 => ?_) (fun h7 => ?_)
  · have h7 := of_decide_eq_true h7
    exfalso; first | contradiction | omega
  · have h7 := of_decide_eq_false h7
    refine z_iconst (v := 1) Z dX7_restore_10 rfl ?_
    refine z_goto Z 28 dX7_restore_11 (by decide) ?_
    refine z_callVu (rest := []) Z dX7_restore_28 6 0 _ _ rfl rfl rfl (zc_X7_holds l D ct (h0) (aS) (aF) (aX) (th) (sg) (sv) (ln) (ta) (f1) (l1) (f2) (l2) (1) (by first | assumption | omega)) (cwV 1 Z.1.2.2.2.2 gX7_restore_X7_holds rfl rfl rfl (by decide +kernel) ⟨Nat.le_of_ble_eq_true rfl, Nat.le_of_ble_eq_true rfl⟩) rfl (Nat.le_of_ble_eq_true rfl) ⟨Nat.le_of_ble_eq_true rfl, Nat.le_of_ble_eq_true rfl⟩ [true, false, false, false] [zO h0 6 [zi 1, .ref aS, zi ((sv : Nat) : Int), .ref aF, .ref aX, zi ((ln : Nat) : Int), zi ((ta : Nat) : Int), zi sg, zi ((f1 : Nat) : Int), zi ((l1 : Nat) : Int), zi ((f2 : Nat) : Int), zi ((l2 : Nat) : Int)], zAI ct aS 3888 g, zAZ ct aF 2 fz, zAI ct aX 80 (zN tx)] [zi (zb (decide (1 = 0)))] rfl rfl rfl rfl ?_
    refine z_ifb_ne Z 36 dX7_restore_31 (by decide) (fun h31 => ?_) (fun h31 => ?_)
    · have h31 := of_decide_eq_true h31
      exfalso; first | contradiction | omega
    · have h31 := of_decide_eq_false h31
      refine z_iconst (v := 0) Z dX7_restore_34 rfl ?_
      refine z_eqs [zO h0 6 [zi 1, .ref aS, zi ((sv : Nat) : Int), .ref aF, .ref aX, zi ((ln : Nat) : Int), zi ((ta : Nat) : Int), zi sg, zi ((f1 : Nat) : Int), zi ((l1 : Nat) : Int), zi ((f2 : Nat) : Int), zi ((l2 : Nat) : Int)], zAI ct aS 3888 g, zAZ ct aF 2 fz, zAI ct aX 80 (zN tx)] _ [zi 0] (rfl) rfl (rfl) ?_
      exact hR _ _ () trivial dX7_restore_35
theorem zin_X7_restore_X7 : ∀ w ∈ wsX70, w ∈ wsX7_restore := by decide +kernel
theorem zlk_X7_restore_13 : Cond.fieldLink RX7 13 "HashedDirectoryModel" "isFilled" "[Z" ∈ wsX7_restore := by decide +kernel
set_option maxHeartbeats 4000000 in
set_option maxRecDepth 100000 in
theorem zc_X7_restore_2 (l : Launch) (D : va_G) (ct : zCT) (h0 : Nat) (aS : Nat) (aF : Nat) (aX : Nat) (th : Int) (sg : Int) (sv : Nat) (ln : Nat) (ta : Nat) (f1 : Nat) (l1 : Nat) (f2 : Nat) (l2 : Nat) (g : Nat → Int) (fz : Nat → Int) (tx : Nat → Nat) (k : Nat) (hfz : ∀ j, j < 2 → fz j = 0 ∨ fz j = 1) (hkk : k < 2) (hf0 : fz k = 0) : zMet l yX7_restore wsX7_restore ({ frames := 1, cells := 0, slots := 0, locals := 22 } : Room) D ct [.ref h0, zi ((k : Nat) : Int)] [zO h0 6 [zi th, .ref aS, zi ((sv : Nat) : Int), .ref aF, .ref aX, zi ((ln : Nat) : Int), zi ((ta : Nat) : Int), zi sg, zi ((f1 : Nat) : Int), zi ((l1 : Nat) : Int), zi ((f2 : Nat) : Int), zi ((l2 : Nat) : Int)], zAI ct aS 3888 g, zAZ ct aF 2 fz, zAI ct aX 80 (zN tx)] (fun _ : Unit => True) (fun _ => some (zi (0))) (fun _ => [zO h0 6 [zi 2, .ref aS, zi ((sv : Nat) : Int), .ref aF, .ref aX, zi ((ln : Nat) : Int), zi ((ta : Nat) : Int), zi sg, zi ((f1 : Nat) : Int), zi ((l1 : Nat) : Int), zi ((f2 : Nat) : Int), zi ((l2 : Nat) : Int)], zAI ct aS 3888 g, zAZ ct aF 2 fz, zAI ct aX 80 (zN tx)]) 0 0 := by
  refine zMet_i (cc := cX7_restore) (maxL := 2) (r := fun _ => 0) (by decide) rfl (Nat.le_of_ble_eq_true rfl) ?_
  intro p e s m below meth c A Q Z hnm hR
  refine z_eqs _ [(0, .ref h0), (1, zi ((k : Nat) : Int))] _ rfl rfl rfl ?_
  refine z_aload_n Z dX7_restore_0 0 rfl ?_
  refine z_iload_n Z dX7_restore_1 1 rfl ?_
  refine z_iconst (v := 0) Z dX7_restore_2 rfl ?_
  refine z_iconst (v := 1) Z dX7_restore_3 rfl ?_
  refine z_callSu (rest := [.ref h0]) Z dX7_restore_4 (zc_X7_in l D ct (((k : Nat) : Int)) (0) (1) (by first | assumption | omega) (by first | assumption | omega) (by first | assumption | omega)) (va_cwS 3 Z.1.2.2.2.2 gX7_restore_X7_in rfl rfl rfl (by decide +kernel) ⟨Nat.le_of_ble_eq_true rfl, Nat.le_of_ble_eq_true rfl⟩) rfl (Nat.le_of_ble_eq_true rfl) ⟨Nat.le_of_ble_eq_true rfl, Nat.le_of_ble_eq_true rfl⟩ [false, false, false, false] [zO h0 6 [zi th, .ref aS, zi ((sv : Nat) : Int), .ref aF, .ref aX, zi ((ln : Nat) : Int), zi ((ta : Nat) : Int), zi sg, zi ((f1 : Nat) : Int), zi ((l1 : Nat) : Int), zi ((f2 : Nat) : Int), zi ((l2 : Nat) : Int)], zAI ct aS 3888 g, zAZ ct aF 2 fz, zAI ct aX 80 (zN tx)] [zi (zb (decide (0 ≤ ((k : Nat) : Int) ∧ ((k : Nat) : Int) ≤ 1))), .ref h0] rfl rfl rfl rfl ?_
  refine z_ifb_ne Z 14 dX7_restore_7 (by decide) (fun h7 => ?_) (fun h7 => ?_)
  · have h7 := of_decide_eq_true h7
    refine z_aload_n Z dX7_restore_14 0 rfl ?_
    refine z_get Z dX7_restore_15 zin_X7_restore_X7 0 3 rfl rfl (by decide) zlk_X7_restore_13 rfl ?_
    refine z_iload_n Z dX7_restore_18 1 rfl ?_
    refine z_zald Z dX7_restore_19 2 (k) rfl (rfl) ⟨by omega, by omega⟩ ?_
    refine z_if_ne Z 27 dX7_restore_20 (by decide) (by omega) (fun h20 => ?_) (fun h20 => ?_)
    · exfalso; omega
    · refine z_iconst (v := 2) Z dX7_restore_23 rfl ?_
      refine z_goto Z 28 dX7_restore_24 (by decide) ?_
      refine z_callVu (rest := []) Z dX7_restore_28 6 0 _ _ rfl rfl rfl (zc_X7_holds l D ct (h0) (aS) (aF) (aX) (th) (sg) (sv) (ln) (ta) (f1) (l1) (f2) (l2) (2) (by first | assumption | omega)) (cwV 1 Z.1.2.2.2.2 gX7_restore_X7_holds rfl rfl rfl (by decide +kernel) ⟨Nat.le_of_ble_eq_true rfl, Nat.le_of_ble_eq_true rfl⟩) rfl (Nat.le_of_ble_eq_true rfl) ⟨Nat.le_of_ble_eq_true rfl, Nat.le_of_ble_eq_true rfl⟩ [true, false, false, false] [zO h0 6 [zi 2, .ref aS, zi ((sv : Nat) : Int), .ref aF, .ref aX, zi ((ln : Nat) : Int), zi ((ta : Nat) : Int), zi sg, zi ((f1 : Nat) : Int), zi ((l1 : Nat) : Int), zi ((f2 : Nat) : Int), zi ((l2 : Nat) : Int)], zAI ct aS 3888 g, zAZ ct aF 2 fz, zAI ct aX 80 (zN tx)] [zi (zb (decide (2 = 0)))] rfl rfl rfl rfl ?_
      refine z_ifb_ne Z 36 dX7_restore_31 (by decide) (fun h31 => ?_) (fun h31 => ?_)
      · have h31 := of_decide_eq_true h31
        exfalso; omega
      · have h31 := of_decide_eq_false h31
        refine z_iconst (v := 0) Z dX7_restore_34 rfl ?_
        refine z_eqs [zO h0 6 [zi 2, .ref aS, zi ((sv : Nat) : Int), .ref aF, .ref aX, zi ((ln : Nat) : Int), zi ((ta : Nat) : Int), zi sg, zi ((f1 : Nat) : Int), zi ((l1 : Nat) : Int), zi ((f2 : Nat) : Int), zi ((l2 : Nat) : Int)], zAI ct aS 3888 g, zAZ ct aF 2 fz, zAI ct aX 80 (zN tx)] _ [zi 0] (rfl) rfl (rfl) ?_
        exact hR _ _ () trivial dX7_restore_35
  · have h7 := of_decide_eq_false h7
    exfalso; omega
theorem zlk_X7_restore_7 : Cond.fieldLink RX7 7 "HashedDirectoryModel" "s" "[I" ∈ wsX7_restore := by decide +kernel
set_option maxHeartbeats 4000000 in
set_option maxRecDepth 100000 in
theorem zc_X7_restore_0 (l : Launch) (D : va_G) (ct : zCT) (h0 : Nat) (aS : Nat) (aF : Nat) (aX : Nat) (th : Int) (sg : Int) (sv : Nat) (ln : Nat) (ta : Nat) (f1 : Nat) (l1 : Nat) (f2 : Nat) (l2 : Nat) (g : Nat → Int) (fz : Nat → Int) (tx : Nat → Nat) (k : Nat) (hsv : sv ≤ 6) (hfz : ∀ j, j < 2 → fz j = 0 ∨ fz j = 1) (hkk : k < 2) (hf0 : fz k = 1) : zMet l yX7_restore wsX7_restore ({ frames := 2, cells := 0, slots := 0, locals := 44 } : Room) D ct [.ref h0, zi ((k : Nat) : Int)] [zO h0 6 [zi th, .ref aS, zi ((sv : Nat) : Int), .ref aF, .ref aX, zi ((ln : Nat) : Int), zi ((ta : Nat) : Int), zi sg, zi ((f1 : Nat) : Int), zi ((l1 : Nat) : Int), zi ((f2 : Nat) : Int), zi ((l2 : Nat) : Int)], zAI ct aS 3888 g, zAZ ct aF 2 fz, zAI ct aX 80 (zN tx)] (fun _ : Unit => True) (fun _ => some (zi ((g (432 * (7 + k)))))) (fun _ => [zO h0 6 [zi 0, .ref aS, zi ((kpS sv : Nat) : Int), .ref aF, .ref aX, zi ((ln : Nat) : Int), zi ((ta : Nat) : Int), zi sg, zi ((f1 : Nat) : Int), zi ((l1 : Nat) : Int), zi ((f2 : Nat) : Int), zi ((l2 : Nat) : Int)], zAI ct aS 3888 (cpF (kpG g sv) (7 + k) 0 432), zAZ ct aF 2 fz, zAI ct aX 80 (zN tx)]) 0 0 := by
  refine zMet_i (cc := cX7_restore) (maxL := 2) (r := fun _ => (g (432 * (7 + k)))) (by decide) rfl (Nat.le_of_ble_eq_true rfl) ?_
  intro p e s m below meth c A Q Z hnm hR
  refine z_eqs _ [(0, .ref h0), (1, zi ((k : Nat) : Int))] _ rfl rfl rfl ?_
  refine z_aload_n Z dX7_restore_0 0 rfl ?_
  refine z_iload_n Z dX7_restore_1 1 rfl ?_
  refine z_iconst (v := 0) Z dX7_restore_2 rfl ?_
  refine z_iconst (v := 1) Z dX7_restore_3 rfl ?_
  refine z_callSu (rest := [.ref h0]) Z dX7_restore_4 (zc_X7_in l D ct (((k : Nat) : Int)) (0) (1) (by first | assumption | omega) (by first | assumption | omega) (by first | assumption | omega)) (va_cwS 3 Z.1.2.2.2.2 gX7_restore_X7_in rfl rfl rfl (by decide +kernel) ⟨Nat.le_of_ble_eq_true rfl, Nat.le_of_ble_eq_true rfl⟩) rfl (Nat.le_of_ble_eq_true rfl) ⟨Nat.le_of_ble_eq_true rfl, Nat.le_of_ble_eq_true rfl⟩ [false, false, false, false] [zO h0 6 [zi th, .ref aS, zi ((sv : Nat) : Int), .ref aF, .ref aX, zi ((ln : Nat) : Int), zi ((ta : Nat) : Int), zi sg, zi ((f1 : Nat) : Int), zi ((l1 : Nat) : Int), zi ((f2 : Nat) : Int), zi ((l2 : Nat) : Int)], zAI ct aS 3888 g, zAZ ct aF 2 fz, zAI ct aX 80 (zN tx)] [zi (zb (decide (0 ≤ ((k : Nat) : Int) ∧ ((k : Nat) : Int) ≤ 1))), .ref h0] rfl rfl rfl rfl ?_
  refine z_ifb_ne Z 14 dX7_restore_7 (by decide) (fun h7 => ?_) (fun h7 => ?_)
  · have h7 := of_decide_eq_true h7
    refine z_aload_n Z dX7_restore_14 0 rfl ?_
    refine z_get Z dX7_restore_15 zin_X7_restore_X7 0 3 rfl rfl (by decide) zlk_X7_restore_13 rfl ?_
    refine z_iload_n Z dX7_restore_18 1 rfl ?_
    refine z_zald Z dX7_restore_19 2 (k) rfl (rfl) ⟨by omega, by omega⟩ ?_
    refine z_if_ne Z 27 dX7_restore_20 (by decide) (by omega) (fun h20 => ?_) (fun h20 => ?_)
    · refine z_iconst (v := 0) Z dX7_restore_27 rfl ?_
      refine z_callVu (rest := []) Z dX7_restore_28 6 0 _ _ rfl rfl rfl (zc_X7_holds l D ct (h0) (aS) (aF) (aX) (th) (sg) (sv) (ln) (ta) (f1) (l1) (f2) (l2) (0) (by first | assumption | omega)) (cwV 1 Z.1.2.2.2.2 gX7_restore_X7_holds rfl rfl rfl (by decide +kernel) ⟨Nat.le_of_ble_eq_true rfl, Nat.le_of_ble_eq_true rfl⟩) rfl (Nat.le_of_ble_eq_true rfl) ⟨Nat.le_of_ble_eq_true rfl, Nat.le_of_ble_eq_true rfl⟩ [true, false, false, false] [zO h0 6 [zi 0, .ref aS, zi ((sv : Nat) : Int), .ref aF, .ref aX, zi ((ln : Nat) : Int), zi ((ta : Nat) : Int), zi sg, zi ((f1 : Nat) : Int), zi ((l1 : Nat) : Int), zi ((f2 : Nat) : Int), zi ((l2 : Nat) : Int)], zAI ct aS 3888 g, zAZ ct aF 2 fz, zAI ct aX 80 (zN tx)] [zi (zb (decide (0 = 0)))] rfl rfl rfl rfl ?_
      refine z_ifb_ne Z 36 dX7_restore_31 (by decide) (fun h31 => ?_) (fun h31 => ?_)
      · have h31 := of_decide_eq_true h31
        refine z_aload_n Z dX7_restore_36 0 rfl ?_
        refine z_callVu (rest := []) Z dX7_restore_37 6 0 _ _ rfl rfl rfl (zc_X7_keeps l D ct (h0) (aS) (aF) (aX) (0) (sg) (sv) (ln) (ta) (f1) (l1) (f2) (l2) (g) (by first | assumption | omega)) (cwV 0 Z.1.2.2.2.2 gX7_restore_X7_keeps rfl rfl rfl (by decide +kernel) ⟨Nat.le_of_ble_eq_true rfl, Nat.le_of_ble_eq_true rfl⟩) rfl (Nat.le_of_ble_eq_true rfl) ⟨Nat.le_of_ble_eq_true rfl, Nat.le_of_ble_eq_true rfl⟩ [true, true, false, false] [zO h0 6 [zi 0, .ref aS, zi ((kpS sv : Nat) : Int), .ref aF, .ref aX, zi ((ln : Nat) : Int), zi ((ta : Nat) : Int), zi sg, zi ((f1 : Nat) : Int), zi ((l1 : Nat) : Int), zi ((f2 : Nat) : Int), zi ((l2 : Nat) : Int)], zAI ct aS 3888 (kpG g sv), zAZ ct aF 2 fz, zAI ct aX 80 (zN tx)] [] rfl rfl rfl rfl ?_
        refine z_aload_n Z dX7_restore_40 0 rfl ?_
        refine z_bipush (v := 7) Z dX7_restore_41 (by decide +kernel) ?_
        refine z_iload_n Z dX7_restore_43 1 rfl ?_
        refine z_iadd Z dX7_restore_44 ?_
        refine z_top (y := ((7 + k : Nat) : Int)) (by omega) ?_
        refine z_iconst (v := 0) Z dX7_restore_45 rfl ?_
        refine z_callVu (rest := []) Z dX7_restore_46 6 0 _ _ rfl rfl rfl (zc_X7_copies l D ct (h0) (aS) (aF) (aX) (0) (sg) (kpS sv) (ln) (ta) (f1) (l1) (f2) (l2) (kpG g sv) (7 + k) (0) (by first | assumption | omega) (by first | assumption | omega) (by first | assumption | omega)) (cwV 2 Z.1.2.2.2.2 gX7_restore_X7_copies rfl rfl rfl (by decide +kernel) ⟨Nat.le_of_ble_eq_true rfl, Nat.le_of_ble_eq_true rfl⟩) rfl (Nat.le_of_ble_eq_true rfl) ⟨Nat.le_of_ble_eq_true rfl, Nat.le_of_ble_eq_true rfl⟩ [true, true, false, false] [zO h0 6 [zi 0, .ref aS, zi (((kpS sv) : Nat) : Int), .ref aF, .ref aX, zi ((ln : Nat) : Int), zi ((ta : Nat) : Int), zi sg, zi ((f1 : Nat) : Int), zi ((l1 : Nat) : Int), zi ((f2 : Nat) : Int), zi ((l2 : Nat) : Int)], zAI ct aS 3888 (cpF (kpG g sv) (7 + k) 0 432), zAZ ct aF 2 fz, zAI ct aX 80 (zN tx)] [] rfl rfl rfl rfl ?_
        refine z_aload_n Z dX7_restore_49 0 rfl ?_
        refine z_get Z dX7_restore_50 zin_X7_restore_X7 0 1 rfl rfl (by decide) zlk_X7_restore_7 rfl ?_
        refine z_iconst (v := 0) Z dX7_restore_53 rfl ?_
        refine z_iald Z dX7_restore_54 1 (0) rfl (by omega) ⟨by omega, by omega⟩ ?_
        refine z_top (y := (g (432 * (7 + k)))) ((cpK_0 g hsv hkk).symm) ?_
        refine z_eqs [zO h0 6 [zi 0, .ref aS, zi ((kpS sv : Nat) : Int), .ref aF, .ref aX, zi ((ln : Nat) : Int), zi ((ta : Nat) : Int), zi sg, zi ((f1 : Nat) : Int), zi ((l1 : Nat) : Int), zi ((f2 : Nat) : Int), zi ((l2 : Nat) : Int)], zAI ct aS 3888 (cpF (kpG g sv) (7 + k) 0 432), zAZ ct aF 2 fz, zAI ct aX 80 (zN tx)] _ [zi (g (432 * (7 + k)))] (rfl) rfl (rfl) ?_
        exact hR _ _ () trivial dX7_restore_55
      · have h31 := of_decide_eq_false h31
        exfalso; omega
    · exfalso; omega
  · have h7 := of_decide_eq_false h7
    exfalso; omega
theorem zin_X7_entries_X7 : ∀ w ∈ wsX70, w ∈ wsX7_entries := by decide +kernel
theorem zlk_X7_entries_20 : Cond.fieldLink RX7 20 "HashedDirectoryModel" "thrown" "I" ∈ wsX7_entries := by decide +kernel
theorem zlk_X7_entries_7 : Cond.fieldLink RX7 7 "HashedDirectoryModel" "s" "[I" ∈ wsX7_entries := by decide +kernel
set_option maxHeartbeats 4000000 in
set_option maxRecDepth 100000 in
theorem zc_X7_entries_0 (l : Launch) (D : va_G) (ct : zCT) (h0 : Nat) (aS : Nat) (aF : Nat) (aX : Nat) (th : Int) (sg : Int) (sv : Nat) (ln : Nat) (ta : Nat) (f1 : Nat) (l1 : Nat) (f2 : Nat) (l2 : Nat) (g : Nat → Int) (fz : Nat → Int) (tx : Nat → Nat) (cnt : Nat) (hcn : g 0 = ((cnt : Nat) : Int)) (hc : cnt ≤ 40) (hg : ∀ k, k < 432 → -2 ≤ g k ∧ g k < 70000) : zMet l yX7_entries wsX7_entries ({ frames := 0, cells := 0, slots := 0, locals := 0 } : Room) D ct [.ref h0] [zO h0 6 [zi th, .ref aS, zi ((sv : Nat) : Int), .ref aF, .ref aX, zi ((ln : Nat) : Int), zi ((ta : Nat) : Int), zi sg, zi ((f1 : Nat) : Int), zi ((l1 : Nat) : Int), zi ((f2 : Nat) : Int), zi ((l2 : Nat) : Int)], zAI ct aS 3888 g, zAZ ct aF 2 fz, zAI ct aX 80 (zN tx)] (fun _ : Unit => True) (fun _ => some (zi ((g 0)))) (fun _ => [zO h0 6 [zi 0, .ref aS, zi ((sv : Nat) : Int), .ref aF, .ref aX, zi ((ln : Nat) : Int), zi ((ta : Nat) : Int), zi sg, zi ((f1 : Nat) : Int), zi ((l1 : Nat) : Int), zi ((f2 : Nat) : Int), zi ((l2 : Nat) : Int)], zAI ct aS 3888 g, zAZ ct aF 2 fz, zAI ct aX 80 (zN tx)]) 0 0 := by
  refine zMet_i (cc := cX7_entries) (maxL := 1) (r := fun _ => (g 0)) (by decide) rfl (Nat.le_of_ble_eq_true rfl) ?_
  intro p e s m below meth c A Q Z hnm hR
  refine z_eqs _ [(0, .ref h0)] _ rfl rfl rfl ?_
  refine z_aload_n Z dX7_entries_0 0 rfl ?_
  refine z_iconst (v := 0) Z dX7_entries_1 rfl ?_
  refine z_put (ty := .int) Z dX7_entries_2 zin_X7_entries_X7 tyX7 tyX7_ok nmX7 0 0 [zO h0 6 [zi 0, .ref aS, zi ((sv : Nat) : Int), .ref aF, .ref aX, zi ((ln : Nat) : Int), zi ((ta : Nat) : Int), zi sg, zi ((f1 : Nat) : Int), zi ((l1 : Nat) : Int), zi ((f2 : Nat) : Int), zi ((l2 : Nat) : Int)], zAI ct aS 3888 g, zAZ ct aF 2 fz, zAI ct aX 80 (zN tx)] rfl rfl (by decide) zlk_X7_entries_20 rfl (by decide +kernel) rfl rfl (Nat.le_of_ble_eq_true rfl) rfl ?_
  refine z_aload_n Z dX7_entries_5 0 rfl ?_
  refine z_get Z dX7_entries_6 zin_X7_entries_X7 0 1 rfl rfl (by decide) zlk_X7_entries_7 rfl ?_
  refine z_iconst (v := 0) Z dX7_entries_9 rfl ?_
  refine z_iald Z dX7_entries_10 1 (0) rfl (by omega) ⟨by omega, by omega⟩ ?_
  have he1 := hg (0) (by omega)
  refine z_eqs [zO h0 6 [zi 0, .ref aS, zi ((sv : Nat) : Int), .ref aF, .ref aX, zi ((ln : Nat) : Int), zi ((ta : Nat) : Int), zi sg, zi ((f1 : Nat) : Int), zi ((l1 : Nat) : Int), zi ((f2 : Nat) : Int), zi ((l2 : Nat) : Int)], zAI ct aS 3888 g, zAZ ct aF 2 fz, zAI ct aX 80 (zN tx)] _ [zi (g 0)] (rfl) rfl (rfl) ?_
  exact hR _ _ () trivial dX7_entries_11
set_option maxHeartbeats 4000000 in
set_option maxRecDepth 100000 in
theorem zc_X7_idAt_1 (l : Launch) (D : va_G) (ct : zCT) (h0 : Nat) (aS : Nat) (aF : Nat) (aX : Nat) (th : Int) (sg : Int) (sv : Nat) (ln : Nat) (ta : Nat) (f1 : Nat) (l1 : Nat) (f2 : Nat) (l2 : Nat) (g : Nat → Int) (fz : Nat → Int) (tx : Nat → Nat) (cnt : Nat) (ix : Int) (hcn : g 0 = ((cnt : Nat) : Int)) (hc : cnt ≤ 40) (hg : ∀ k, k < 432 → -2 ≤ g k ∧ g k < 70000) (hix : -2147483648 ≤ ix ∧ ix < 2147483648) (hi0 : ix < 0) : zMet l yX7_idAt wsX7_idAt ({ frames := 1, cells := 0, slots := 0, locals := 21 } : Room) D ct [.ref h0, zi ix] [zO h0 6 [zi th, .ref aS, zi ((sv : Nat) : Int), .ref aF, .ref aX, zi ((ln : Nat) : Int), zi ((ta : Nat) : Int), zi sg, zi ((f1 : Nat) : Int), zi ((l1 : Nat) : Int), zi ((f2 : Nat) : Int), zi ((l2 : Nat) : Int)], zAI ct aS 3888 g, zAZ ct aF 2 fz, zAI ct aX 80 (zN tx)] (fun _ : Unit => True) (fun _ => some (zi (0))) (fun _ => [zO h0 6 [zi 1, .ref aS, zi ((sv : Nat) : Int), .ref aF, .ref aX, zi ((ln : Nat) : Int), zi ((ta : Nat) : Int), zi sg, zi ((f1 : Nat) : Int), zi ((l1 : Nat) : Int), zi ((f2 : Nat) : Int), zi ((l2 : Nat) : Int)], zAI ct aS 3888 g, zAZ ct aF 2 fz, zAI ct aX 80 (zN tx)]) 0 0 := by
  refine zMet_i (cc := cX7_idAt) (maxL := 2) (r := fun _ => 0) (by decide) rfl (Nat.le_of_ble_eq_true rfl) ?_
  intro p e s m below meth c A Q Z hnm hR
  refine z_eqs _ [(0, .ref h0), (1, zi ix)] _ rfl rfl rfl ?_
  refine z_aload_n Z dX7_idAt_0 0 rfl ?_
  refine z_iload_n Z dX7_idAt_1 1 rfl ?_
  refine z_if_ge Z 9 dX7_idAt_2 (by decide) (by omega) (fun h2 => ?_) (fun h2 => ?_)
  · exfalso; first | contradiction | omega
  · refine z_iconst (v := 1) Z dX7_idAt_5 rfl ?_
    refine z_goto Z 10 dX7_idAt_6 (by decide) ?_
    refine z_callVu (rest := []) Z dX7_idAt_10 6 0 _ _ rfl rfl rfl (zc_X7_holds l D ct (h0) (aS) (aF) (aX) (th) (sg) (sv) (ln) (ta) (f1) (l1) (f2) (l2) (1) (by first | assumption | omega)) (cwV 1 Z.1.2.2.2.2 gX7_idAt_X7_holds rfl rfl rfl (by decide +kernel) ⟨Nat.le_of_ble_eq_true rfl, Nat.le_of_ble_eq_true rfl⟩) rfl (Nat.le_of_ble_eq_true rfl) ⟨Nat.le_of_ble_eq_true rfl, Nat.le_of_ble_eq_true rfl⟩ [true, false, false, false] [zO h0 6 [zi 1, .ref aS, zi ((sv : Nat) : Int), .ref aF, .ref aX, zi ((ln : Nat) : Int), zi ((ta : Nat) : Int), zi sg, zi ((f1 : Nat) : Int), zi ((l1 : Nat) : Int), zi ((f2 : Nat) : Int), zi ((l2 : Nat) : Int)], zAI ct aS 3888 g, zAZ ct aF 2 fz, zAI ct aX 80 (zN tx)] [zi (zb (decide (1 = 0)))] rfl rfl rfl rfl ?_
    refine z_ifb_ne Z 18 dX7_idAt_13 (by decide) (fun h13 => ?_) (fun h13 => ?_)
    · have h13 := of_decide_eq_true h13
      exfalso; first | contradiction | omega
    · have h13 := of_decide_eq_false h13
      refine z_iconst (v := 0) Z dX7_idAt_16 rfl ?_
      refine z_eqs [zO h0 6 [zi 1, .ref aS, zi ((sv : Nat) : Int), .ref aF, .ref aX, zi ((ln : Nat) : Int), zi ((ta : Nat) : Int), zi sg, zi ((f1 : Nat) : Int), zi ((l1 : Nat) : Int), zi ((f2 : Nat) : Int), zi ((l2 : Nat) : Int)], zAI ct aS 3888 g, zAZ ct aF 2 fz, zAI ct aX 80 (zN tx)] _ [zi 0] (rfl) rfl (rfl) ?_
      exact hR _ _ () trivial dX7_idAt_17
theorem zin_X7_idAt_X7 : ∀ w ∈ wsX70, w ∈ wsX7_idAt := by decide +kernel
theorem zlk_X7_idAt_7 : Cond.fieldLink RX7 7 "HashedDirectoryModel" "s" "[I" ∈ wsX7_idAt := by decide +kernel
set_option maxHeartbeats 4000000 in
set_option maxRecDepth 100000 in
theorem zc_X7_idAt_0 (l : Launch) (D : va_G) (ct : zCT) (h0 : Nat) (aS : Nat) (aF : Nat) (aX : Nat) (th : Int) (sg : Int) (sv : Nat) (ln : Nat) (ta : Nat) (f1 : Nat) (l1 : Nat) (f2 : Nat) (l2 : Nat) (g : Nat → Int) (fz : Nat → Int) (tx : Nat → Nat) (cnt : Nat) (i : Nat) (hcn : g 0 = ((cnt : Nat) : Int)) (hc : cnt ≤ 40) (hg : ∀ k, k < 432 → -2 ≤ g k ∧ g k < 70000) (hix : i < 2147483648) : zMet l yX7_idAt wsX7_idAt ({ frames := 1, cells := 0, slots := 0, locals := 22 } : Room) D ct [.ref h0, zi ((i : Nat) : Int)] [zO h0 6 [zi th, .ref aS, zi ((sv : Nat) : Int), .ref aF, .ref aX, zi ((ln : Nat) : Int), zi ((ta : Nat) : Int), zi sg, zi ((f1 : Nat) : Int), zi ((l1 : Nat) : Int), zi ((f2 : Nat) : Int), zi ((l2 : Nat) : Int)], zAI ct aS 3888 g, zAZ ct aF 2 fz, zAI ct aX 80 (zN tx)] (fun _ : Unit => True) (fun _ => some (zi ((if i < cnt then mI g i 0 else -2)))) (fun _ => [zO h0 6 [zi 0, .ref aS, zi ((sv : Nat) : Int), .ref aF, .ref aX, zi ((ln : Nat) : Int), zi ((ta : Nat) : Int), zi sg, zi ((f1 : Nat) : Int), zi ((l1 : Nat) : Int), zi ((f2 : Nat) : Int), zi ((l2 : Nat) : Int)], zAI ct aS 3888 g, zAZ ct aF 2 fz, zAI ct aX 80 (zN tx)]) 0 0 := by
  refine zMet_i (cc := cX7_idAt) (maxL := 2) (r := fun _ => (if i < cnt then mI g i 0 else -2)) (by decide) rfl (Nat.le_of_ble_eq_true rfl) ?_
  intro p e s m below meth c A Q Z hnm hR
  refine z_eqs _ [(0, .ref h0), (1, zi ((i : Nat) : Int))] _ rfl rfl rfl ?_
  refine z_aload_n Z dX7_idAt_0 0 rfl ?_
  refine z_iload_n Z dX7_idAt_1 1 rfl ?_
  refine z_if_ge Z 9 dX7_idAt_2 (by decide) (by omega) (fun h2 => ?_) (fun h2 => ?_)
  · refine z_iconst (v := 0) Z dX7_idAt_9 rfl ?_
    refine z_callVu (rest := []) Z dX7_idAt_10 6 0 _ _ rfl rfl rfl (zc_X7_holds l D ct (h0) (aS) (aF) (aX) (th) (sg) (sv) (ln) (ta) (f1) (l1) (f2) (l2) (0) (by first | assumption | omega)) (cwV 1 Z.1.2.2.2.2 gX7_idAt_X7_holds rfl rfl rfl (by decide +kernel) ⟨Nat.le_of_ble_eq_true rfl, Nat.le_of_ble_eq_true rfl⟩) rfl (Nat.le_of_ble_eq_true rfl) ⟨Nat.le_of_ble_eq_true rfl, Nat.le_of_ble_eq_true rfl⟩ [true, false, false, false] [zO h0 6 [zi 0, .ref aS, zi ((sv : Nat) : Int), .ref aF, .ref aX, zi ((ln : Nat) : Int), zi ((ta : Nat) : Int), zi sg, zi ((f1 : Nat) : Int), zi ((l1 : Nat) : Int), zi ((f2 : Nat) : Int), zi ((l2 : Nat) : Int)], zAI ct aS 3888 g, zAZ ct aF 2 fz, zAI ct aX 80 (zN tx)] [zi (zb (decide (0 = 0)))] rfl rfl rfl rfl ?_
    refine z_ifb_ne Z 18 dX7_idAt_13 (by decide) (fun h13 => ?_) (fun h13 => ?_)
    · have h13 := of_decide_eq_true h13
      refine z_iload_n Z dX7_idAt_18 1 rfl ?_
      refine z_aload_n Z dX7_idAt_19 0 rfl ?_
      refine z_get Z dX7_idAt_20 zin_X7_idAt_X7 0 1 rfl rfl (by decide) zlk_X7_idAt_7 rfl ?_
      refine z_iconst (v := 0) Z dX7_idAt_23 rfl ?_
      refine z_iald Z dX7_idAt_24 1 (0) rfl (by omega) ⟨by omega, by omega⟩ ?_
      have he1 := hg (0) (by omega)
      refine z_icmp_ge Z 37 dX7_idAt_25 (by decide) (by omega) (by omega) (fun h25 => ?_) (fun h25 => ?_)
      · refine z_bipush (v := -2) Z dX7_idAt_37 (by decide +kernel) ?_
        refine z_eqs [zO h0 6 [zi 0, .ref aS, zi ((sv : Nat) : Int), .ref aF, .ref aX, zi ((ln : Nat) : Int), zi ((ta : Nat) : Int), zi sg, zi ((f1 : Nat) : Int), zi ((l1 : Nat) : Int), zi ((f2 : Nat) : Int), zi ((l2 : Nat) : Int)], zAI ct aS 3888 g, zAZ ct aF 2 fz, zAI ct aX 80 (zN tx)] _ [zi (if i < cnt then mI g i 0 else -2)] (rfl) rfl (congrArg (fun z => [zi z]) (by rw [if_neg (by omega)])) ?_
        exact hR _ _ () trivial dX7_idAt_39
      · refine z_aload_n Z dX7_idAt_28 0 rfl ?_
        refine z_iload_n Z dX7_idAt_29 1 rfl ?_
        refine z_iconst (v := 0) Z dX7_idAt_30 rfl ?_
        refine z_callVu (rest := []) Z dX7_idAt_31 6 0 _ _ rfl rfl rfl (zc_X7_of l D ct (h0) (aS) (aF) (aX) (0) (sg) (sv) (ln) (ta) (f1) (l1) (f2) (l2) (g) (i) (0) (by first | assumption | omega) (by first | assumption | omega)) (cwV 2 Z.1.2.2.2.2 gX7_idAt_X7_of rfl rfl rfl (by decide +kernel) ⟨Nat.le_of_ble_eq_true rfl, Nat.le_of_ble_eq_true rfl⟩) rfl (Nat.le_of_ble_eq_true rfl) ⟨Nat.le_of_ble_eq_true rfl, Nat.le_of_ble_eq_true rfl⟩ [true, true, false, false] [zO h0 6 [zi 0, .ref aS, zi ((sv : Nat) : Int), .ref aF, .ref aX, zi ((ln : Nat) : Int), zi ((ta : Nat) : Int), zi sg, zi ((f1 : Nat) : Int), zi ((l1 : Nat) : Int), zi ((f2 : Nat) : Int), zi ((l2 : Nat) : Int)], zAI ct aS 3888 g, zAZ ct aF 2 fz, zAI ct aX 80 (zN tx)] [zi (mI g i 0)] rfl rfl rfl rfl ?_
        refine z_goto Z 39 dX7_idAt_34 (by decide) ?_
        refine z_eqs [zO h0 6 [zi 0, .ref aS, zi ((sv : Nat) : Int), .ref aF, .ref aX, zi ((ln : Nat) : Int), zi ((ta : Nat) : Int), zi sg, zi ((f1 : Nat) : Int), zi ((l1 : Nat) : Int), zi ((f2 : Nat) : Int), zi ((l2 : Nat) : Int)], zAI ct aS 3888 g, zAZ ct aF 2 fz, zAI ct aX 80 (zN tx)] _ [zi (if i < cnt then mI g i 0 else -2)] (rfl) rfl (congrArg (fun z => [zi z]) (by rw [if_pos (by omega)])) ?_
        exact hR _ _ () trivial dX7_idAt_39
    · have h13 := of_decide_eq_false h13
      exfalso; first | contradiction | omega
  · exfalso; first | contradiction | omega
set_option maxHeartbeats 4000000 in
set_option maxRecDepth 100000 in
theorem zc_X7_find_1 (l : Launch) (D : va_G) (ct : zCT) (h0 : Nat) (aS : Nat) (aF : Nat) (aX : Nat) (th : Int) (sg : Int) (sv : Nat) (ln : Nat) (ta : Nat) (f1 : Nat) (l1 : Nat) (f2 : Nat) (l2 : Nat) (g : Nat → Int) (fz : Nat → Int) (tx : Nat → Nat) (cnt : Nat) (hcn : g 0 = ((cnt : Nat) : Int)) (hc : cnt ≤ 40) (hg : ∀ k, k < 432 → -2 ≤ g k ∧ g k < 70000) (ht : ∀ j, j < 80 → tx j < 128) (hln : ln ≤ 80) (hn : ¬ ((1 ≤ ln ∧ ln ≤ 6) ∧ ∀ r, r < ln → 97 ≤ tx r ∧ tx r ≤ 122)) : zMet l yX7_find wsX7_find ({ frames := 2, cells := 0, slots := 0, locals := 44 } : Room) D ct [.ref h0] [zO h0 6 [zi th, .ref aS, zi ((sv : Nat) : Int), .ref aF, .ref aX, zi ((ln : Nat) : Int), zi ((ta : Nat) : Int), zi sg, zi ((f1 : Nat) : Int), zi ((l1 : Nat) : Int), zi ((f2 : Nat) : Int), zi ((l2 : Nat) : Int)], zAI ct aS 3888 g, zAZ ct aF 2 fz, zAI ct aX 80 (zN tx)] (fun _ : Unit => True) (fun _ => some (zi (0))) (fun _ => [zO h0 6 [zi 1, .ref aS, zi ((sv : Nat) : Int), .ref aF, .ref aX, zi ((ln : Nat) : Int), zi ((ta : Nat) : Int), zi sg, zi ((f1 : Nat) : Int), zi ((l1 : Nat) : Int), zi ((f2 : Nat) : Int), zi ((l2 : Nat) : Int)], zAI ct aS 3888 g, zAZ ct aF 2 fz, zAI ct aX 80 (zN tx)]) 0 0 := by
  refine zMet_i (cc := cX7_find) (maxL := 2) (r := fun _ => 0) (by decide) rfl (Nat.le_of_ble_eq_true rfl) ?_
  intro p e s m below meth c A Q Z hnm hR
  refine z_eqs _ [(0, .ref h0)] _ rfl rfl rfl ?_
  refine z_aload_n Z dX7_find_0 0 rfl ?_
  refine z_aload_n Z dX7_find_1 0 rfl ?_
  refine z_callVu (rest := [.ref h0]) Z dX7_find_2 6 0 _ _ rfl rfl rfl (zc_X7_isName l D ct (h0) (aS) (aF) (aX) (th) (sg) (sv) (ln) (ta) (f1) (l1) (f2) (l2) (tx) (by first | assumption | omega) (by first | assumption | omega)) (cwV 0 Z.1.2.2.2.2 gX7_find_X7_isName rfl rfl rfl (by decide +kernel) ⟨Nat.le_of_ble_eq_true rfl, Nat.le_of_ble_eq_true rfl⟩) rfl (Nat.le_of_ble_eq_true rfl) ⟨Nat.le_of_ble_eq_true rfl, Nat.le_of_ble_eq_true rfl⟩ [true, false, false, true] [zO h0 6 [zi th, .ref aS, zi ((sv : Nat) : Int), .ref aF, .ref aX, zi ((ln : Nat) : Int), zi ((ta : Nat) : Int), zi sg, zi ((f1 : Nat) : Int), zi ((l1 : Nat) : Int), zi ((f2 : Nat) : Int), zi ((l2 : Nat) : Int)], zAI ct aS 3888 g, zAZ ct aF 2 fz, zAI ct aX 80 (zN tx)] [zi (zb (decide ((1 ≤ ln ∧ ln ≤ 6) ∧ ∀ r, r < ln → 97 ≤ tx r ∧ tx r ≤ 122))), .ref h0] rfl rfl rfl rfl ?_
  refine z_ifb_eq Z 12 dX7_find_5 (by decide) (fun h5 => ?_) (fun h5 => ?_)
  · have h5 := of_decide_eq_false h5
    refine z_iconst (v := 1) Z dX7_find_12 rfl ?_
    refine z_callVu (rest := []) Z dX7_find_13 6 0 _ _ rfl rfl rfl (zc_X7_holds l D ct (h0) (aS) (aF) (aX) (th) (sg) (sv) (ln) (ta) (f1) (l1) (f2) (l2) (1) (by first | assumption | omega)) (cwV 1 Z.1.2.2.2.2 gX7_find_X7_holds rfl rfl rfl (by decide +kernel) ⟨Nat.le_of_ble_eq_true rfl, Nat.le_of_ble_eq_true rfl⟩) rfl (Nat.le_of_ble_eq_true rfl) ⟨Nat.le_of_ble_eq_true rfl, Nat.le_of_ble_eq_true rfl⟩ [true, false, false, false] [zO h0 6 [zi 1, .ref aS, zi ((sv : Nat) : Int), .ref aF, .ref aX, zi ((ln : Nat) : Int), zi ((ta : Nat) : Int), zi sg, zi ((f1 : Nat) : Int), zi ((l1 : Nat) : Int), zi ((f2 : Nat) : Int), zi ((l2 : Nat) : Int)], zAI ct aS 3888 g, zAZ ct aF 2 fz, zAI ct aX 80 (zN tx)] [zi (zb (decide (1 = 0)))] rfl rfl rfl rfl ?_
    refine z_ifb_ne Z 21 dX7_find_16 (by decide) (fun h16 => ?_) (fun h16 => ?_)
    · have h16 := of_decide_eq_true h16
      exfalso; first | contradiction | omega
    · have h16 := of_decide_eq_false h16
      refine z_iconst (v := 0) Z dX7_find_19 rfl ?_
      refine z_eqs [zO h0 6 [zi 1, .ref aS, zi ((sv : Nat) : Int), .ref aF, .ref aX, zi ((ln : Nat) : Int), zi ((ta : Nat) : Int), zi sg, zi ((f1 : Nat) : Int), zi ((l1 : Nat) : Int), zi ((f2 : Nat) : Int), zi ((l2 : Nat) : Int)], zAI ct aS 3888 g, zAZ ct aF 2 fz, zAI ct aX 80 (zN tx)] _ [zi 0] (rfl) rfl (rfl) ?_
      exact hR _ _ () trivial dX7_find_20
  · have h5 := of_decide_eq_true h5
    exfalso; first | contradiction | omega
theorem zin_X7_find_X7 : ∀ w ∈ wsX70, w ∈ wsX7_find := by decide +kernel
theorem zlk_X7_find_65 : Cond.fieldLink RX7 65 "HashedDirectoryModel" "length" "I" ∈ wsX7_find := by decide +kernel
set_option maxHeartbeats 4000000 in
set_option maxRecDepth 100000 in
theorem zc_X7_find_0 (l : Launch) (D : va_G) (ct : zCT) (h0 : Nat) (aS : Nat) (aF : Nat) (aX : Nat) (th : Int) (sg : Int) (sv : Nat) (ln : Nat) (ta : Nat) (f1 : Nat) (l1 : Nat) (f2 : Nat) (l2 : Nat) (g : Nat → Int) (fz : Nat → Int) (tx : Nat → Nat) (cnt : Nat) (hcn : g 0 = ((cnt : Nat) : Int)) (hc : cnt ≤ 40) (hg : ∀ k, k < 432 → -2 ≤ g k ∧ g k < 70000) (ht : ∀ j, j < 80 → tx j < 128) (hln : ln ≤ 80) (hn : (1 ≤ ln ∧ ln ≤ 6) ∧ ∀ r, r < ln → 97 ≤ tx r ∧ tx r ≤ 122) : zMet l yX7_find wsX7_find ({ frames := 2, cells := 0, slots := 0, locals := 47 } : Room) D ct [.ref h0] [zO h0 6 [zi th, .ref aS, zi ((sv : Nat) : Int), .ref aF, .ref aX, zi ((ln : Nat) : Int), zi ((ta : Nat) : Int), zi sg, zi ((f1 : Nat) : Int), zi ((l1 : Nat) : Int), zi ((f2 : Nat) : Int), zi ((l2 : Nat) : Int)], zAI ct aS 3888 g, zAZ ct aF 2 fz, zAI ct aX 80 (zN tx)] (fun _ : Unit => True) (fun _ => some (zi ((if fo2 (mN g tx 0 ln) cnt = -2 then -2 else mI g (fo2 (mN g tx 0 ln) cnt).toNat 0)))) (fun _ => [zO h0 6 [zi 0, .ref aS, zi ((sv : Nat) : Int), .ref aF, .ref aX, zi ((ln : Nat) : Int), zi ((ta : Nat) : Int), zi sg, zi ((f1 : Nat) : Int), zi ((l1 : Nat) : Int), zi ((f2 : Nat) : Int), zi ((l2 : Nat) : Int)], zAI ct aS 3888 g, zAZ ct aF 2 fz, zAI ct aX 80 (zN tx)]) 0 0 := by
  refine zMet_i (cc := cX7_find) (maxL := 2) (r := fun _ => (if fo2 (mN g tx 0 ln) cnt = -2 then -2 else mI g (fo2 (mN g tx 0 ln) cnt).toNat 0)) (by decide) rfl (Nat.le_of_ble_eq_true rfl) ?_
  intro p e s m below meth c A Q Z hnm hR
  refine z_eqs _ [(0, .ref h0)] _ rfl rfl rfl ?_
  have hn1 := hn.1
  have hn2 := hn.2
  refine z_aload_n Z dX7_find_0 0 rfl ?_
  refine z_aload_n Z dX7_find_1 0 rfl ?_
  refine z_callVu (rest := [.ref h0]) Z dX7_find_2 6 0 _ _ rfl rfl rfl (zc_X7_isName l D ct (h0) (aS) (aF) (aX) (th) (sg) (sv) (ln) (ta) (f1) (l1) (f2) (l2) (tx) (by first | assumption | omega) (by first | assumption | omega)) (cwV 0 Z.1.2.2.2.2 gX7_find_X7_isName rfl rfl rfl (by decide +kernel) ⟨Nat.le_of_ble_eq_true rfl, Nat.le_of_ble_eq_true rfl⟩) rfl (Nat.le_of_ble_eq_true rfl) ⟨Nat.le_of_ble_eq_true rfl, Nat.le_of_ble_eq_true rfl⟩ [true, false, false, true] [zO h0 6 [zi th, .ref aS, zi ((sv : Nat) : Int), .ref aF, .ref aX, zi ((ln : Nat) : Int), zi ((ta : Nat) : Int), zi sg, zi ((f1 : Nat) : Int), zi ((l1 : Nat) : Int), zi ((f2 : Nat) : Int), zi ((l2 : Nat) : Int)], zAI ct aS 3888 g, zAZ ct aF 2 fz, zAI ct aX 80 (zN tx)] [zi (zb (decide ((1 ≤ ln ∧ ln ≤ 6) ∧ ∀ r, r < ln → 97 ≤ tx r ∧ tx r ≤ 122))), .ref h0] rfl rfl rfl rfl ?_
  refine z_ifb_eq Z 12 dX7_find_5 (by decide) (fun h5 => ?_) (fun h5 => ?_)
  · have h5 := of_decide_eq_false h5
    exfalso; first | contradiction | omega
  · have h5 := of_decide_eq_true h5
    refine z_iconst (v := 0) Z dX7_find_8 rfl ?_
    refine z_goto Z 13 dX7_find_9 (by decide) ?_
    refine z_callVu (rest := []) Z dX7_find_13 6 0 _ _ rfl rfl rfl (zc_X7_holds l D ct (h0) (aS) (aF) (aX) (th) (sg) (sv) (ln) (ta) (f1) (l1) (f2) (l2) (0) (by first | assumption | omega)) (cwV 1 Z.1.2.2.2.2 gX7_find_X7_holds rfl rfl rfl (by decide +kernel) ⟨Nat.le_of_ble_eq_true rfl, Nat.le_of_ble_eq_true rfl⟩) rfl (Nat.le_of_ble_eq_true rfl) ⟨Nat.le_of_ble_eq_true rfl, Nat.le_of_ble_eq_true rfl⟩ [true, false, false, false] [zO h0 6 [zi 0, .ref aS, zi ((sv : Nat) : Int), .ref aF, .ref aX, zi ((ln : Nat) : Int), zi ((ta : Nat) : Int), zi sg, zi ((f1 : Nat) : Int), zi ((l1 : Nat) : Int), zi ((f2 : Nat) : Int), zi ((l2 : Nat) : Int)], zAI ct aS 3888 g, zAZ ct aF 2 fz, zAI ct aX 80 (zN tx)] [zi (zb (decide (0 = 0)))] rfl rfl rfl rfl ?_
    refine z_ifb_ne Z 21 dX7_find_16 (by decide) (fun h16 => ?_) (fun h16 => ?_)
    · have h16 := of_decide_eq_true h16
      refine z_aload_n Z dX7_find_21 0 rfl ?_
      refine z_iconst (v := 0) Z dX7_find_22 rfl ?_
      refine z_aload_n Z dX7_find_23 0 rfl ?_
      refine z_get Z dX7_find_24 zin_X7_find_X7 0 5 rfl rfl (by decide) zlk_X7_find_65 rfl ?_
      refine z_callVu (rest := []) Z dX7_find_27 6 0 _ _ rfl rfl rfl (zc_X7_placeOfName l D ct (h0) (aS) (aF) (aX) (0) (sg) (sv) (ln) (ta) (f1) (l1) (f2) (l2) (g) (tx) (cnt) (0) (ln) (by first | assumption | omega) (by first | assumption | omega) (by first | assumption | omega) (by first | assumption | omega) (by first | assumption | omega) (by first | assumption | omega)) (cwV 2 Z.1.2.2.2.2 gX7_find_X7_placeOfName rfl rfl rfl (by decide +kernel) ⟨Nat.le_of_ble_eq_true rfl, Nat.le_of_ble_eq_true rfl⟩) rfl (Nat.le_of_ble_eq_true rfl) ⟨Nat.le_of_ble_eq_true rfl, Nat.le_of_ble_eq_true rfl⟩ [true, true, false, true] [zO h0 6 [zi 0, .ref aS, zi ((sv : Nat) : Int), .ref aF, .ref aX, zi ((ln : Nat) : Int), zi ((ta : Nat) : Int), zi sg, zi ((f1 : Nat) : Int), zi ((l1 : Nat) : Int), zi ((f2 : Nat) : Int), zi ((l2 : Nat) : Int)], zAI ct aS 3888 g, zAZ ct aF 2 fz, zAI ct aX 80 (zN tx)] [zi (fo2 (mN g tx 0 ln) cnt)] rfl rfl rfl rfl ?_
      have hf9 := fo2_rg (mN g tx 0 ln) cnt
      have hf8 := fo2_ge (mN g tx 0 ln) cnt
      refine z_istore_n Z dX7_find_30 [(1, zi (fo2 (mN g tx 0 ln) cnt)), (0, .ref h0)] (by decide) rfl ?_
      refine z_iload_n Z dX7_find_31 0 rfl ?_
      refine z_bipush (v := -2) Z dX7_find_32 (by decide +kernel) ?_
      refine z_icmp_ne Z 42 dX7_find_34 (by decide) (by omega) (by omega) (fun h34 => ?_) (fun h34 => ?_)
      · refine z_aload_n Z dX7_find_42 1 rfl ?_
        refine z_iload_n Z dX7_find_43 0 rfl ?_
        refine z_top (y := (((fo2 (mN g tx 0 ln) cnt).toNat : Nat) : Int)) (by omega) ?_
        refine z_iconst (v := 0) Z dX7_find_44 rfl ?_
        refine z_callVu (rest := []) Z dX7_find_45 6 0 _ _ rfl rfl rfl (zc_X7_of l D ct (h0) (aS) (aF) (aX) (0) (sg) (sv) (ln) (ta) (f1) (l1) (f2) (l2) (g) ((fo2 (mN g tx 0 ln) cnt).toNat) (0) (by first | assumption | omega) (by first | assumption | omega)) (cwV 2 Z.1.2.2.2.2 gX7_find_X7_of rfl rfl rfl (by decide +kernel) ⟨Nat.le_of_ble_eq_true rfl, Nat.le_of_ble_eq_true rfl⟩) rfl (Nat.le_of_ble_eq_true rfl) ⟨Nat.le_of_ble_eq_true rfl, Nat.le_of_ble_eq_true rfl⟩ [true, true, false, false] [zO h0 6 [zi 0, .ref aS, zi ((sv : Nat) : Int), .ref aF, .ref aX, zi ((ln : Nat) : Int), zi ((ta : Nat) : Int), zi sg, zi ((f1 : Nat) : Int), zi ((l1 : Nat) : Int), zi ((f2 : Nat) : Int), zi ((l2 : Nat) : Int)], zAI ct aS 3888 g, zAZ ct aF 2 fz, zAI ct aX 80 (zN tx)] [zi (mI g ((fo2 (mN g tx 0 ln) cnt).toNat) 0)] rfl rfl rfl rfl ?_
        refine z_eqs [zO h0 6 [zi 0, .ref aS, zi ((sv : Nat) : Int), .ref aF, .ref aX, zi ((ln : Nat) : Int), zi ((ta : Nat) : Int), zi sg, zi ((f1 : Nat) : Int), zi ((l1 : Nat) : Int), zi ((f2 : Nat) : Int), zi ((l2 : Nat) : Int)], zAI ct aS 3888 g, zAZ ct aF 2 fz, zAI ct aX 80 (zN tx)] _ [zi (if fo2 (mN g tx 0 ln) cnt = -2 then -2 else mI g (fo2 (mN g tx 0 ln) cnt).toNat 0)] (rfl) rfl (congrArg (fun z => [zi z]) (by rw [if_neg (by omega)])) ?_
        exact hR _ _ () trivial dX7_find_48
      · refine z_bipush (v := -2) Z dX7_find_37 (by decide +kernel) ?_
        refine z_goto Z 48 dX7_find_39 (by decide) ?_
        refine z_eqs [zO h0 6 [zi 0, .ref aS, zi ((sv : Nat) : Int), .ref aF, .ref aX, zi ((ln : Nat) : Int), zi ((ta : Nat) : Int), zi sg, zi ((f1 : Nat) : Int), zi ((l1 : Nat) : Int), zi ((f2 : Nat) : Int), zi ((l2 : Nat) : Int)], zAI ct aS 3888 g, zAZ ct aF 2 fz, zAI ct aX 80 (zN tx)] _ [zi (if fo2 (mN g tx 0 ln) cnt = -2 then -2 else mI g (fo2 (mN g tx 0 ln) cnt).toNat 0)] (rfl) rfl (congrArg (fun z => [zi z]) (by rw [if_pos (by omega)])) ?_
        exact hR _ _ () trivial dX7_find_48
    · have h16 := of_decide_eq_false h16
      exfalso; first | contradiction | omega
set_option maxHeartbeats 4000000 in
set_option maxRecDepth 100000 in
theorem zc_X7_hashOfText_1 (l : Launch) (D : va_G) (ct : zCT) (h0 : Nat) (aS : Nat) (aF : Nat) (aX : Nat) (th : Int) (sg : Int) (sv : Nat) (ln : Nat) (ta : Nat) (f1 : Nat) (l1 : Nat) (f2 : Nat) (l2 : Nat) (g : Nat → Int) (fz : Nat → Int) (tx : Nat → Nat) (ht : ∀ j, j < 80 → tx j < 128) (hln : ln ≤ 80) (hn : ¬ ((1 ≤ ln ∧ ln ≤ 6) ∧ ∀ r, r < ln → 97 ≤ tx r ∧ tx r ≤ 122)) : zMet l yX7_hashOfText wsX7_hashOfText ({ frames := 2, cells := 0, slots := 0, locals := 44 } : Room) D ct [.ref h0] [zO h0 6 [zi th, .ref aS, zi ((sv : Nat) : Int), .ref aF, .ref aX, zi ((ln : Nat) : Int), zi ((ta : Nat) : Int), zi sg, zi ((f1 : Nat) : Int), zi ((l1 : Nat) : Int), zi ((f2 : Nat) : Int), zi ((l2 : Nat) : Int)], zAI ct aS 3888 g, zAZ ct aF 2 fz, zAI ct aX 80 (zN tx)] (fun _ : Unit => True) (fun _ => some (zi (0))) (fun _ => [zO h0 6 [zi 1, .ref aS, zi ((sv : Nat) : Int), .ref aF, .ref aX, zi ((ln : Nat) : Int), zi ((ta : Nat) : Int), zi sg, zi ((f1 : Nat) : Int), zi ((l1 : Nat) : Int), zi ((f2 : Nat) : Int), zi ((l2 : Nat) : Int)], zAI ct aS 3888 g, zAZ ct aF 2 fz, zAI ct aX 80 (zN tx)]) 0 0 := by
  refine zMet_i (cc := cX7_hashOfText) (maxL := 1) (r := fun _ => 0) (by decide) rfl (Nat.le_of_ble_eq_true rfl) ?_
  intro p e s m below meth c A Q Z hnm hR
  refine z_eqs _ [(0, .ref h0)] _ rfl rfl rfl ?_
  refine z_aload_n Z dX7_hashOfText_0 0 rfl ?_
  refine z_aload_n Z dX7_hashOfText_1 0 rfl ?_
  refine z_callVu (rest := [.ref h0]) Z dX7_hashOfText_2 6 0 _ _ rfl rfl rfl (zc_X7_isName l D ct (h0) (aS) (aF) (aX) (th) (sg) (sv) (ln) (ta) (f1) (l1) (f2) (l2) (tx) (by first | assumption | omega) (by first | assumption | omega)) (cwV 0 Z.1.2.2.2.2 gX7_hashOfText_X7_isName rfl rfl rfl (by decide +kernel) ⟨Nat.le_of_ble_eq_true rfl, Nat.le_of_ble_eq_true rfl⟩) rfl (Nat.le_of_ble_eq_true rfl) ⟨Nat.le_of_ble_eq_true rfl, Nat.le_of_ble_eq_true rfl⟩ [true, false, false, true] [zO h0 6 [zi th, .ref aS, zi ((sv : Nat) : Int), .ref aF, .ref aX, zi ((ln : Nat) : Int), zi ((ta : Nat) : Int), zi sg, zi ((f1 : Nat) : Int), zi ((l1 : Nat) : Int), zi ((f2 : Nat) : Int), zi ((l2 : Nat) : Int)], zAI ct aS 3888 g, zAZ ct aF 2 fz, zAI ct aX 80 (zN tx)] [zi (zb (decide ((1 ≤ ln ∧ ln ≤ 6) ∧ ∀ r, r < ln → 97 ≤ tx r ∧ tx r ≤ 122))), .ref h0] rfl rfl rfl rfl ?_
  refine z_ifb_eq Z 12 dX7_hashOfText_5 (by decide) (fun h5 => ?_) (fun h5 => ?_)
  · have h5 := of_decide_eq_false h5
    refine z_iconst (v := 1) Z dX7_hashOfText_12 rfl ?_
    refine z_callVu (rest := []) Z dX7_hashOfText_13 6 0 _ _ rfl rfl rfl (zc_X7_holds l D ct (h0) (aS) (aF) (aX) (th) (sg) (sv) (ln) (ta) (f1) (l1) (f2) (l2) (1) (by first | assumption | omega)) (cwV 1 Z.1.2.2.2.2 gX7_hashOfText_X7_holds rfl rfl rfl (by decide +kernel) ⟨Nat.le_of_ble_eq_true rfl, Nat.le_of_ble_eq_true rfl⟩) rfl (Nat.le_of_ble_eq_true rfl) ⟨Nat.le_of_ble_eq_true rfl, Nat.le_of_ble_eq_true rfl⟩ [true, false, false, false] [zO h0 6 [zi 1, .ref aS, zi ((sv : Nat) : Int), .ref aF, .ref aX, zi ((ln : Nat) : Int), zi ((ta : Nat) : Int), zi sg, zi ((f1 : Nat) : Int), zi ((l1 : Nat) : Int), zi ((f2 : Nat) : Int), zi ((l2 : Nat) : Int)], zAI ct aS 3888 g, zAZ ct aF 2 fz, zAI ct aX 80 (zN tx)] [zi (zb (decide (1 = 0)))] rfl rfl rfl rfl ?_
    refine z_ifb_eq Z 31 dX7_hashOfText_16 (by decide) (fun h16 => ?_) (fun h16 => ?_)
    · have h16 := of_decide_eq_false h16
      refine z_iconst (v := 0) Z dX7_hashOfText_31 rfl ?_
      refine z_eqs [zO h0 6 [zi 1, .ref aS, zi ((sv : Nat) : Int), .ref aF, .ref aX, zi ((ln : Nat) : Int), zi ((ta : Nat) : Int), zi sg, zi ((f1 : Nat) : Int), zi ((l1 : Nat) : Int), zi ((f2 : Nat) : Int), zi ((l2 : Nat) : Int)], zAI ct aS 3888 g, zAZ ct aF 2 fz, zAI ct aX 80 (zN tx)] _ [zi 0] (rfl) rfl (rfl) ?_
      exact hR _ _ () trivial dX7_hashOfText_32
    · have h16 := of_decide_eq_true h16
      exfalso; first | contradiction | omega
  · have h5 := of_decide_eq_true h5
    exfalso; first | contradiction | omega
theorem zin_X7_hashOfText_X7 : ∀ w ∈ wsX70, w ∈ wsX7_hashOfText := by decide +kernel
theorem zlk_X7_hashOfText_65 : Cond.fieldLink RX7 65 "HashedDirectoryModel" "length" "I" ∈ wsX7_hashOfText := by decide +kernel
set_option maxHeartbeats 4000000 in
set_option maxRecDepth 100000 in
theorem zc_X7_hashOfText_0 (l : Launch) (D : va_G) (ct : zCT) (h0 : Nat) (aS : Nat) (aF : Nat) (aX : Nat) (th : Int) (sg : Int) (sv : Nat) (ln : Nat) (ta : Nat) (f1 : Nat) (l1 : Nat) (f2 : Nat) (l2 : Nat) (g : Nat → Int) (fz : Nat → Int) (tx : Nat → Nat) (ht : ∀ j, j < 80 → tx j < 128) (hln : ln ≤ 80) (hn : (1 ≤ ln ∧ ln ≤ 6) ∧ ∀ r, r < ln → 97 ≤ tx r ∧ tx r ≤ 122) : zMet l yX7_hashOfText wsX7_hashOfText ({ frames := 2, cells := 0, slots := 0, locals := 44 } : Room) D ct [.ref h0] [zO h0 6 [zi th, .ref aS, zi ((sv : Nat) : Int), .ref aF, .ref aX, zi ((ln : Nat) : Int), zi ((ta : Nat) : Int), zi sg, zi ((f1 : Nat) : Int), zi ((l1 : Nat) : Int), zi ((f2 : Nat) : Int), zi ((l2 : Nat) : Int)], zAI ct aS 3888 g, zAZ ct aF 2 fz, zAI ct aX 80 (zN tx)] (fun _ : Unit => True) (fun _ => some (zi (((hhF tx 0 ln : Nat) : Int)))) (fun _ => [zO h0 6 [zi 0, .ref aS, zi ((sv : Nat) : Int), .ref aF, .ref aX, zi ((ln : Nat) : Int), zi ((ta : Nat) : Int), zi sg, zi ((f1 : Nat) : Int), zi ((l1 : Nat) : Int), zi ((f2 : Nat) : Int), zi ((l2 : Nat) : Int)], zAI ct aS 3888 g, zAZ ct aF 2 fz, zAI ct aX 80 (zN tx)]) 0 0 := by
  refine zMet_i (cc := cX7_hashOfText) (maxL := 1) (r := fun _ => ((hhF tx 0 ln : Nat) : Int)) (by decide) rfl (Nat.le_of_ble_eq_true rfl) ?_
  intro p e s m below meth c A Q Z hnm hR
  refine z_eqs _ [(0, .ref h0)] _ rfl rfl rfl ?_
  have hn1 := hn.1
  have hn2 := hn.2
  refine z_aload_n Z dX7_hashOfText_0 0 rfl ?_
  refine z_aload_n Z dX7_hashOfText_1 0 rfl ?_
  refine z_callVu (rest := [.ref h0]) Z dX7_hashOfText_2 6 0 _ _ rfl rfl rfl (zc_X7_isName l D ct (h0) (aS) (aF) (aX) (th) (sg) (sv) (ln) (ta) (f1) (l1) (f2) (l2) (tx) (by first | assumption | omega) (by first | assumption | omega)) (cwV 0 Z.1.2.2.2.2 gX7_hashOfText_X7_isName rfl rfl rfl (by decide +kernel) ⟨Nat.le_of_ble_eq_true rfl, Nat.le_of_ble_eq_true rfl⟩) rfl (Nat.le_of_ble_eq_true rfl) ⟨Nat.le_of_ble_eq_true rfl, Nat.le_of_ble_eq_true rfl⟩ [true, false, false, true] [zO h0 6 [zi th, .ref aS, zi ((sv : Nat) : Int), .ref aF, .ref aX, zi ((ln : Nat) : Int), zi ((ta : Nat) : Int), zi sg, zi ((f1 : Nat) : Int), zi ((l1 : Nat) : Int), zi ((f2 : Nat) : Int), zi ((l2 : Nat) : Int)], zAI ct aS 3888 g, zAZ ct aF 2 fz, zAI ct aX 80 (zN tx)] [zi (zb (decide ((1 ≤ ln ∧ ln ≤ 6) ∧ ∀ r, r < ln → 97 ≤ tx r ∧ tx r ≤ 122))), .ref h0] rfl rfl rfl rfl ?_
  refine z_ifb_eq Z 12 dX7_hashOfText_5 (by decide) (fun h5 => ?_) (fun h5 => ?_)
  · have h5 := of_decide_eq_false h5
    exfalso; first | contradiction | omega
  · have h5 := of_decide_eq_true h5
    refine z_iconst (v := 0) Z dX7_hashOfText_8 rfl ?_
    refine z_goto Z 13 dX7_hashOfText_9 (by decide) ?_
    refine z_callVu (rest := []) Z dX7_hashOfText_13 6 0 _ _ rfl rfl rfl (zc_X7_holds l D ct (h0) (aS) (aF) (aX) (th) (sg) (sv) (ln) (ta) (f1) (l1) (f2) (l2) (0) (by first | assumption | omega)) (cwV 1 Z.1.2.2.2.2 gX7_hashOfText_X7_holds rfl rfl rfl (by decide +kernel) ⟨Nat.le_of_ble_eq_true rfl, Nat.le_of_ble_eq_true rfl⟩) rfl (Nat.le_of_ble_eq_true rfl) ⟨Nat.le_of_ble_eq_true rfl, Nat.le_of_ble_eq_true rfl⟩ [true, false, false, false] [zO h0 6 [zi 0, .ref aS, zi ((sv : Nat) : Int), .ref aF, .ref aX, zi ((ln : Nat) : Int), zi ((ta : Nat) : Int), zi sg, zi ((f1 : Nat) : Int), zi ((l1 : Nat) : Int), zi ((f2 : Nat) : Int), zi ((l2 : Nat) : Int)], zAI ct aS 3888 g, zAZ ct aF 2 fz, zAI ct aX 80 (zN tx)] [zi (zb (decide (0 = 0)))] rfl rfl rfl rfl ?_
    refine z_ifb_eq Z 31 dX7_hashOfText_16 (by decide) (fun h16 => ?_) (fun h16 => ?_)
    · have h16 := of_decide_eq_false h16
      exfalso; first | contradiction | omega
    · have h16 := of_decide_eq_true h16
      refine z_aload_n Z dX7_hashOfText_19 0 rfl ?_
      refine z_iconst (v := 0) Z dX7_hashOfText_20 rfl ?_
      refine z_aload_n Z dX7_hashOfText_21 0 rfl ?_
      refine z_get Z dX7_hashOfText_22 zin_X7_hashOfText_X7 0 5 rfl rfl (by decide) zlk_X7_hashOfText_65 rfl ?_
      refine z_callVu (rest := []) Z dX7_hashOfText_25 6 0 _ _ rfl rfl rfl (zc_X7_hashOfName l D ct (h0) (aS) (aF) (aX) (0) (sg) (sv) (ln) (ta) (f1) (l1) (f2) (l2) (tx) (0) (ln) (by first | assumption | omega) (by first | assumption | omega) (by first | assumption | omega) (fun j hj => by rw [Nat.zero_add]; exact hn.2 j hj)) (cwV 2 Z.1.2.2.2.2 gX7_hashOfText_X7_hashOfName rfl rfl rfl (by decide +kernel) ⟨Nat.le_of_ble_eq_true rfl, Nat.le_of_ble_eq_true rfl⟩) rfl (Nat.le_of_ble_eq_true rfl) ⟨Nat.le_of_ble_eq_true rfl, Nat.le_of_ble_eq_true rfl⟩ [true, false, false, true] [zO h0 6 [zi 0, .ref aS, zi ((sv : Nat) : Int), .ref aF, .ref aX, zi ((ln : Nat) : Int), zi ((ta : Nat) : Int), zi sg, zi ((f1 : Nat) : Int), zi ((l1 : Nat) : Int), zi ((f2 : Nat) : Int), zi ((l2 : Nat) : Int)], zAI ct aS 3888 g, zAZ ct aF 2 fz, zAI ct aX 80 (zN tx)] [zi ((hhF tx 0 ln : Nat) : Int)] rfl rfl rfl rfl ?_
      refine z_goto Z 32 dX7_hashOfText_28 (by decide) ?_
      refine z_eqs [zO h0 6 [zi 0, .ref aS, zi ((sv : Nat) : Int), .ref aF, .ref aX, zi ((ln : Nat) : Int), zi ((ta : Nat) : Int), zi sg, zi ((f1 : Nat) : Int), zi ((l1 : Nat) : Int), zi ((f2 : Nat) : Int), zi ((l2 : Nat) : Int)], zAI ct aS 3888 g, zAZ ct aF 2 fz, zAI ct aX 80 (zN tx)] _ [zi ((hhF tx 0 ln : Nat) : Int)] (rfl) rfl (rfl) ?_
      exact hR _ _ () trivial dX7_hashOfText_32
set_option maxHeartbeats 4000000 in
set_option maxRecDepth 100000 in
theorem zc_X7_hashOf_1 (l : Launch) (D : va_G) (ct : zCT) (h0 : Nat) (aS : Nat) (aF : Nat) (aX : Nat) (th : Int) (sg : Int) (sv : Nat) (ln : Nat) (ta : Nat) (f1 : Nat) (l1 : Nat) (f2 : Nat) (l2 : Nat) (g : Nat → Int) (fz : Nat → Int) (tx : Nat → Nat) (cnt : Nat) (id : Int) (hcn : g 0 = ((cnt : Nat) : Int)) (hc : cnt ≤ 40) (hg : ∀ k, k < 432 → -2 ≤ g k ∧ g k < 70000) (hid : -2147483648 ≤ id ∧ id < 2147483648) (hne : fo2 (mP g id) cnt = -2) : zMet l yX7_hashOf wsX7_hashOf ({ frames := 2, cells := 0, slots := 0, locals := 44 } : Room) D ct [.ref h0, zi id] [zO h0 6 [zi th, .ref aS, zi ((sv : Nat) : Int), .ref aF, .ref aX, zi ((ln : Nat) : Int), zi ((ta : Nat) : Int), zi sg, zi ((f1 : Nat) : Int), zi ((l1 : Nat) : Int), zi ((f2 : Nat) : Int), zi ((l2 : Nat) : Int)], zAI ct aS 3888 g, zAZ ct aF 2 fz, zAI ct aX 80 (zN tx)] (fun _ : Unit => True) (fun _ => some (zi (0))) (fun _ => [zO h0 6 [zi 1, .ref aS, zi ((sv : Nat) : Int), .ref aF, .ref aX, zi ((ln : Nat) : Int), zi ((ta : Nat) : Int), zi sg, zi ((f1 : Nat) : Int), zi ((l1 : Nat) : Int), zi ((f2 : Nat) : Int), zi ((l2 : Nat) : Int)], zAI ct aS 3888 g, zAZ ct aF 2 fz, zAI ct aX 80 (zN tx)]) 0 0 := by
  refine zMet_i (cc := cX7_hashOf) (maxL := 3) (r := fun _ => 0) (by decide) rfl (Nat.le_of_ble_eq_true rfl) ?_
  intro p e s m below meth c A Q Z hnm hR
  refine z_eqs _ [(0, .ref h0), (1, zi id)] _ rfl rfl rfl ?_
  refine z_aload_n Z dX7_hashOf_0 0 rfl ?_
  refine z_iload_n Z dX7_hashOf_1 1 rfl ?_
  refine z_callVu (rest := []) Z dX7_hashOf_2 6 0 _ _ rfl rfl rfl (zc_X7_placeOf l D ct (h0) (aS) (aF) (aX) (th) (sg) (sv) (ln) (ta) (f1) (l1) (f2) (l2) (g) (cnt) (id) (by first | assumption | omega) (by first | assumption | omega) (by first | assumption | omega) (by first | assumption | omega)) (cwV 1 Z.1.2.2.2.2 gX7_hashOf_X7_placeOf rfl rfl rfl (by decide +kernel) ⟨Nat.le_of_ble_eq_true rfl, Nat.le_of_ble_eq_true rfl⟩) rfl (Nat.le_of_ble_eq_true rfl) ⟨Nat.le_of_ble_eq_true rfl, Nat.le_of_ble_eq_true rfl⟩ [true, true, false, false] [zO h0 6 [zi th, .ref aS, zi ((sv : Nat) : Int), .ref aF, .ref aX, zi ((ln : Nat) : Int), zi ((ta : Nat) : Int), zi sg, zi ((f1 : Nat) : Int), zi ((l1 : Nat) : Int), zi ((f2 : Nat) : Int), zi ((l2 : Nat) : Int)], zAI ct aS 3888 g, zAZ ct aF 2 fz, zAI ct aX 80 (zN tx)] [zi (fo2 (mP g id) cnt)] rfl rfl rfl rfl ?_
  have hf9 := fo2_rg (mP g id) cnt
  have hf8 := fo2_ge (mP g id) cnt
  refine z_istore_n Z dX7_hashOf_5 [(2, zi (fo2 (mP g id) cnt)), (0, .ref h0), (1, zi id)] (by decide) rfl ?_
  refine z_aload_n Z dX7_hashOf_6 1 rfl ?_
  refine z_iload_n Z dX7_hashOf_7 0 rfl ?_
  refine z_bipush (v := -2) Z dX7_hashOf_8 (by decide +kernel) ?_
  refine z_icmp_ne Z 17 dX7_hashOf_10 (by decide) (by omega) (by omega) (fun h10 => ?_) (fun h10 => ?_)
  · exfalso; first | contradiction | omega
  · refine z_iconst (v := 1) Z dX7_hashOf_13 rfl ?_
    refine z_goto Z 18 dX7_hashOf_14 (by decide) ?_
    refine z_callVu (rest := []) Z dX7_hashOf_18 6 0 _ _ rfl rfl rfl (zc_X7_holds l D ct (h0) (aS) (aF) (aX) (th) (sg) (sv) (ln) (ta) (f1) (l1) (f2) (l2) (1) (by first | assumption | omega)) (cwV 1 Z.1.2.2.2.2 gX7_hashOf_X7_holds rfl rfl rfl (by decide +kernel) ⟨Nat.le_of_ble_eq_true rfl, Nat.le_of_ble_eq_true rfl⟩) rfl (Nat.le_of_ble_eq_true rfl) ⟨Nat.le_of_ble_eq_true rfl, Nat.le_of_ble_eq_true rfl⟩ [true, false, false, false] [zO h0 6 [zi 1, .ref aS, zi ((sv : Nat) : Int), .ref aF, .ref aX, zi ((ln : Nat) : Int), zi ((ta : Nat) : Int), zi sg, zi ((f1 : Nat) : Int), zi ((l1 : Nat) : Int), zi ((f2 : Nat) : Int), zi ((l2 : Nat) : Int)], zAI ct aS 3888 g, zAZ ct aF 2 fz, zAI ct aX 80 (zN tx)] [zi (zb (decide (1 = 0)))] rfl rfl rfl rfl ?_
    refine z_ifb_eq Z 33 dX7_hashOf_21 (by decide) (fun h21 => ?_) (fun h21 => ?_)
    · have h21 := of_decide_eq_false h21
      refine z_iconst (v := 0) Z dX7_hashOf_33 rfl ?_
      refine z_eqs [zO h0 6 [zi 1, .ref aS, zi ((sv : Nat) : Int), .ref aF, .ref aX, zi ((ln : Nat) : Int), zi ((ta : Nat) : Int), zi sg, zi ((f1 : Nat) : Int), zi ((l1 : Nat) : Int), zi ((f2 : Nat) : Int), zi ((l2 : Nat) : Int)], zAI ct aS 3888 g, zAZ ct aF 2 fz, zAI ct aX 80 (zN tx)] _ [zi 0] (rfl) rfl (rfl) ?_
      exact hR _ _ () trivial dX7_hashOf_34
    · have h21 := of_decide_eq_true h21
      exfalso; first | contradiction | omega
set_option maxHeartbeats 4000000 in
set_option maxRecDepth 100000 in
theorem zc_X7_hashOf_0 (l : Launch) (D : va_G) (ct : zCT) (h0 : Nat) (aS : Nat) (aF : Nat) (aX : Nat) (th : Int) (sg : Int) (sv : Nat) (ln : Nat) (ta : Nat) (f1 : Nat) (l1 : Nat) (f2 : Nat) (l2 : Nat) (g : Nat → Int) (fz : Nat → Int) (tx : Nat → Nat) (cnt : Nat) (id : Int) (hcn : g 0 = ((cnt : Nat) : Int)) (hc : cnt ≤ 40) (hg : ∀ k, k < 432 → -2 ≤ g k ∧ g k < 70000) (hid : -2147483648 ≤ id ∧ id < 2147483648) (hne : fo2 (mP g id) cnt ≠ -2) : zMet l yX7_hashOf wsX7_hashOf ({ frames := 2, cells := 0, slots := 0, locals := 44 } : Room) D ct [.ref h0, zi id] [zO h0 6 [zi th, .ref aS, zi ((sv : Nat) : Int), .ref aF, .ref aX, zi ((ln : Nat) : Int), zi ((ta : Nat) : Int), zi sg, zi ((f1 : Nat) : Int), zi ((l1 : Nat) : Int), zi ((f2 : Nat) : Int), zi ((l2 : Nat) : Int)], zAI ct aS 3888 g, zAZ ct aF 2 fz, zAI ct aX 80 (zN tx)] (fun _ : Unit => True) (fun _ => some (zi ((mI g (fo2 (mP g id) cnt).toNat 1)))) (fun _ => [zO h0 6 [zi 0, .ref aS, zi ((sv : Nat) : Int), .ref aF, .ref aX, zi ((ln : Nat) : Int), zi ((ta : Nat) : Int), zi sg, zi ((f1 : Nat) : Int), zi ((l1 : Nat) : Int), zi ((f2 : Nat) : Int), zi ((l2 : Nat) : Int)], zAI ct aS 3888 g, zAZ ct aF 2 fz, zAI ct aX 80 (zN tx)]) 0 0 := by
  refine zMet_i (cc := cX7_hashOf) (maxL := 3) (r := fun _ => (mI g (fo2 (mP g id) cnt).toNat 1)) (by decide) rfl (Nat.le_of_ble_eq_true rfl) ?_
  intro p e s m below meth c A Q Z hnm hR
  refine z_eqs _ [(0, .ref h0), (1, zi id)] _ rfl rfl rfl ?_
  refine z_aload_n Z dX7_hashOf_0 0 rfl ?_
  refine z_iload_n Z dX7_hashOf_1 1 rfl ?_
  refine z_callVu (rest := []) Z dX7_hashOf_2 6 0 _ _ rfl rfl rfl (zc_X7_placeOf l D ct (h0) (aS) (aF) (aX) (th) (sg) (sv) (ln) (ta) (f1) (l1) (f2) (l2) (g) (cnt) (id) (by first | assumption | omega) (by first | assumption | omega) (by first | assumption | omega) (by first | assumption | omega)) (cwV 1 Z.1.2.2.2.2 gX7_hashOf_X7_placeOf rfl rfl rfl (by decide +kernel) ⟨Nat.le_of_ble_eq_true rfl, Nat.le_of_ble_eq_true rfl⟩) rfl (Nat.le_of_ble_eq_true rfl) ⟨Nat.le_of_ble_eq_true rfl, Nat.le_of_ble_eq_true rfl⟩ [true, true, false, false] [zO h0 6 [zi th, .ref aS, zi ((sv : Nat) : Int), .ref aF, .ref aX, zi ((ln : Nat) : Int), zi ((ta : Nat) : Int), zi sg, zi ((f1 : Nat) : Int), zi ((l1 : Nat) : Int), zi ((f2 : Nat) : Int), zi ((l2 : Nat) : Int)], zAI ct aS 3888 g, zAZ ct aF 2 fz, zAI ct aX 80 (zN tx)] [zi (fo2 (mP g id) cnt)] rfl rfl rfl rfl ?_
  have hf9 := fo2_rg (mP g id) cnt
  have hf8 := fo2_ge (mP g id) cnt
  refine z_istore_n Z dX7_hashOf_5 [(2, zi (fo2 (mP g id) cnt)), (0, .ref h0), (1, zi id)] (by decide) rfl ?_
  refine z_aload_n Z dX7_hashOf_6 1 rfl ?_
  refine z_iload_n Z dX7_hashOf_7 0 rfl ?_
  refine z_bipush (v := -2) Z dX7_hashOf_8 (by decide +kernel) ?_
  refine z_icmp_ne Z 17 dX7_hashOf_10 (by decide) (by omega) (by omega) (fun h10 => ?_) (fun h10 => ?_)
  · refine z_iconst (v := 0) Z dX7_hashOf_17 rfl ?_
    refine z_callVu (rest := []) Z dX7_hashOf_18 6 0 _ _ rfl rfl rfl (zc_X7_holds l D ct (h0) (aS) (aF) (aX) (th) (sg) (sv) (ln) (ta) (f1) (l1) (f2) (l2) (0) (by first | assumption | omega)) (cwV 1 Z.1.2.2.2.2 gX7_hashOf_X7_holds rfl rfl rfl (by decide +kernel) ⟨Nat.le_of_ble_eq_true rfl, Nat.le_of_ble_eq_true rfl⟩) rfl (Nat.le_of_ble_eq_true rfl) ⟨Nat.le_of_ble_eq_true rfl, Nat.le_of_ble_eq_true rfl⟩ [true, false, false, false] [zO h0 6 [zi 0, .ref aS, zi ((sv : Nat) : Int), .ref aF, .ref aX, zi ((ln : Nat) : Int), zi ((ta : Nat) : Int), zi sg, zi ((f1 : Nat) : Int), zi ((l1 : Nat) : Int), zi ((f2 : Nat) : Int), zi ((l2 : Nat) : Int)], zAI ct aS 3888 g, zAZ ct aF 2 fz, zAI ct aX 80 (zN tx)] [zi (zb (decide (0 = 0)))] rfl rfl rfl rfl ?_
    refine z_ifb_eq Z 33 dX7_hashOf_21 (by decide) (fun h21 => ?_) (fun h21 => ?_)
    · have h21 := of_decide_eq_false h21
      exfalso; first | contradiction | omega
    · have h21 := of_decide_eq_true h21
      refine z_aload_n Z dX7_hashOf_24 1 rfl ?_
      refine z_iload_n Z dX7_hashOf_25 0 rfl ?_
      refine z_top (y := (((fo2 (mP g id) cnt).toNat : Nat) : Int)) (by omega) ?_
      refine z_iconst (v := 1) Z dX7_hashOf_26 rfl ?_
      refine z_callVu (rest := []) Z dX7_hashOf_27 6 0 _ _ rfl rfl rfl (zc_X7_of l D ct (h0) (aS) (aF) (aX) (0) (sg) (sv) (ln) (ta) (f1) (l1) (f2) (l2) (g) ((fo2 (mP g id) cnt).toNat) (1) (by first | assumption | omega) (by first | assumption | omega)) (cwV 2 Z.1.2.2.2.2 gX7_hashOf_X7_of rfl rfl rfl (by decide +kernel) ⟨Nat.le_of_ble_eq_true rfl, Nat.le_of_ble_eq_true rfl⟩) rfl (Nat.le_of_ble_eq_true rfl) ⟨Nat.le_of_ble_eq_true rfl, Nat.le_of_ble_eq_true rfl⟩ [true, true, false, false] [zO h0 6 [zi 0, .ref aS, zi ((sv : Nat) : Int), .ref aF, .ref aX, zi ((ln : Nat) : Int), zi ((ta : Nat) : Int), zi sg, zi ((f1 : Nat) : Int), zi ((l1 : Nat) : Int), zi ((f2 : Nat) : Int), zi ((l2 : Nat) : Int)], zAI ct aS 3888 g, zAZ ct aF 2 fz, zAI ct aX 80 (zN tx)] [zi (mI g ((fo2 (mP g id) cnt).toNat) 1)] rfl rfl rfl rfl ?_
      refine z_goto Z 34 dX7_hashOf_30 (by decide) ?_
      refine z_eqs [zO h0 6 [zi 0, .ref aS, zi ((sv : Nat) : Int), .ref aF, .ref aX, zi ((ln : Nat) : Int), zi ((ta : Nat) : Int), zi sg, zi ((f1 : Nat) : Int), zi ((l1 : Nat) : Int), zi ((f2 : Nat) : Int), zi ((l2 : Nat) : Int)], zAI ct aS 3888 g, zAZ ct aF 2 fz, zAI ct aX 80 (zN tx)] _ [zi (mI g (fo2 (mP g id) cnt).toNat 1)] (rfl) rfl (congrArg (fun z => [zi z]) (by omega)) ?_
      exact hR _ _ () trivial dX7_hashOf_34
  · exfalso; first | contradiction | omega
set_option maxHeartbeats 4000000 in
set_option maxRecDepth 100000 in
theorem zc_X7_letterOf_1 (l : Launch) (D : va_G) (ct : zCT) (h0 : Nat) (aS : Nat) (aF : Nat) (aX : Nat) (th : Int) (sg : Int) (sv : Nat) (ln : Nat) (ta : Nat) (f1 : Nat) (l1 : Nat) (f2 : Nat) (l2 : Nat) (g : Nat → Int) (fz : Nat → Int) (tx : Nat → Nat) (cnt : Nat) (id : Int) (ix : Int) (hcn : g 0 = ((cnt : Nat) : Int)) (hc : cnt ≤ 40) (hg : ∀ k, k < 432 → -2 ≤ g k ∧ g k < 70000) (hid : -2147483648 ≤ id ∧ id < 2147483648) (hix : -2147483648 ≤ ix ∧ ix < 2147483648) (hne : fo2 (mP g id) cnt = -2 ∨ ix < 0) : zMet l yX7_letterOf wsX7_letterOf ({ frames := 2, cells := 0, slots := 0, locals := 44 } : Room) D ct [.ref h0, zi id, zi ix] [zO h0 6 [zi th, .ref aS, zi ((sv : Nat) : Int), .ref aF, .ref aX, zi ((ln : Nat) : Int), zi ((ta : Nat) : Int), zi sg, zi ((f1 : Nat) : Int), zi ((l1 : Nat) : Int), zi ((f2 : Nat) : Int), zi ((l2 : Nat) : Int)], zAI ct aS 3888 g, zAZ ct aF 2 fz, zAI ct aX 80 (zN tx)] (fun _ : Unit => True) (fun _ => some (zi (0))) (fun _ => [zO h0 6 [zi 1, .ref aS, zi ((sv : Nat) : Int), .ref aF, .ref aX, zi ((ln : Nat) : Int), zi ((ta : Nat) : Int), zi sg, zi ((f1 : Nat) : Int), zi ((l1 : Nat) : Int), zi ((f2 : Nat) : Int), zi ((l2 : Nat) : Int)], zAI ct aS 3888 g, zAZ ct aF 2 fz, zAI ct aX 80 (zN tx)]) 0 0 := by
  refine zMet_i (cc := cX7_letterOf) (maxL := 4) (r := fun _ => 0) (by decide) rfl (Nat.le_of_ble_eq_true rfl) ?_
  intro p e s m below meth c A Q Z hnm hR
  refine z_eqs _ [(0, .ref h0), (1, zi id), (2, zi ix)] _ rfl rfl rfl ?_
  refine z_aload_n Z dX7_letterOf_0 0 rfl ?_
  refine z_iload_n Z dX7_letterOf_1 1 rfl ?_
  refine z_callVu (rest := []) Z dX7_letterOf_2 6 0 _ _ rfl rfl rfl (zc_X7_placeOf l D ct (h0) (aS) (aF) (aX) (th) (sg) (sv) (ln) (ta) (f1) (l1) (f2) (l2) (g) (cnt) (id) (by first | assumption | omega) (by first | assumption | omega) (by first | assumption | omega) (by first | assumption | omega)) (cwV 1 Z.1.2.2.2.2 gX7_letterOf_X7_placeOf rfl rfl rfl (by decide +kernel) ⟨Nat.le_of_ble_eq_true rfl, Nat.le_of_ble_eq_true rfl⟩) rfl (Nat.le_of_ble_eq_true rfl) ⟨Nat.le_of_ble_eq_true rfl, Nat.le_of_ble_eq_true rfl⟩ [true, true, false, false] [zO h0 6 [zi th, .ref aS, zi ((sv : Nat) : Int), .ref aF, .ref aX, zi ((ln : Nat) : Int), zi ((ta : Nat) : Int), zi sg, zi ((f1 : Nat) : Int), zi ((l1 : Nat) : Int), zi ((f2 : Nat) : Int), zi ((l2 : Nat) : Int)], zAI ct aS 3888 g, zAZ ct aF 2 fz, zAI ct aX 80 (zN tx)] [zi (fo2 (mP g id) cnt)] rfl rfl rfl rfl ?_
  have hf9 := fo2_rg (mP g id) cnt
  have hf8 := fo2_ge (mP g id) cnt
  refine z_istore_n Z dX7_letterOf_5 [(3, zi (fo2 (mP g id) cnt)), (0, .ref h0), (1, zi id), (2, zi ix)] (by decide) rfl ?_
  refine z_aload_n Z dX7_letterOf_6 1 rfl ?_
  refine z_iload_n Z dX7_letterOf_7 0 rfl ?_
  refine z_bipush (v := -2) Z dX7_letterOf_8 (by decide +kernel) ?_
  refine z_icmp_eq Z 17 dX7_letterOf_10 (by decide) (by omega) (by omega) (fun h10 => ?_) (fun h10 => ?_)
  · refine z_iconst (v := 1) Z dX7_letterOf_17 rfl ?_
    refine z_goto Z 22 dX7_letterOf_18 (by decide) ?_
    refine z_callVu (rest := []) Z dX7_letterOf_22 6 0 _ _ rfl rfl rfl (zc_X7_holds l D ct (h0) (aS) (aF) (aX) (th) (sg) (sv) (ln) (ta) (f1) (l1) (f2) (l2) (1) (by first | assumption | omega)) (cwV 1 Z.1.2.2.2.2 gX7_letterOf_X7_holds rfl rfl rfl (by decide +kernel) ⟨Nat.le_of_ble_eq_true rfl, Nat.le_of_ble_eq_true rfl⟩) rfl (Nat.le_of_ble_eq_true rfl) ⟨Nat.le_of_ble_eq_true rfl, Nat.le_of_ble_eq_true rfl⟩ [true, false, false, false] [zO h0 6 [zi 1, .ref aS, zi ((sv : Nat) : Int), .ref aF, .ref aX, zi ((ln : Nat) : Int), zi ((ta : Nat) : Int), zi sg, zi ((f1 : Nat) : Int), zi ((l1 : Nat) : Int), zi ((f2 : Nat) : Int), zi ((l2 : Nat) : Int)], zAI ct aS 3888 g, zAZ ct aF 2 fz, zAI ct aX 80 (zN tx)] [zi (zb (decide (1 = 0)))] rfl rfl rfl rfl ?_
    refine z_ifb_ne Z 30 dX7_letterOf_25 (by decide) (fun h25 => ?_) (fun h25 => ?_)
    · have h25 := of_decide_eq_true h25
      exfalso; omega
    · have h25 := of_decide_eq_false h25
      refine z_iconst (v := 0) Z dX7_letterOf_28 rfl ?_
      refine z_eqs [zO h0 6 [zi 1, .ref aS, zi ((sv : Nat) : Int), .ref aF, .ref aX, zi ((ln : Nat) : Int), zi ((ta : Nat) : Int), zi sg, zi ((f1 : Nat) : Int), zi ((l1 : Nat) : Int), zi ((f2 : Nat) : Int), zi ((l2 : Nat) : Int)], zAI ct aS 3888 g, zAZ ct aF 2 fz, zAI ct aX 80 (zN tx)] _ [zi 0] (rfl) rfl (rfl) ?_
      exact hR _ _ () trivial dX7_letterOf_29
  · refine z_iload_n Z dX7_letterOf_13 3 rfl ?_
    refine z_if_ge Z 21 dX7_letterOf_14 (by decide) (by omega) (fun h14 => ?_) (fun h14 => ?_)
    · exfalso; omega
    · refine z_iconst (v := 1) Z dX7_letterOf_17 rfl ?_
      refine z_goto Z 22 dX7_letterOf_18 (by decide) ?_
      refine z_callVu (rest := []) Z dX7_letterOf_22 6 0 _ _ rfl rfl rfl (zc_X7_holds l D ct (h0) (aS) (aF) (aX) (th) (sg) (sv) (ln) (ta) (f1) (l1) (f2) (l2) (1) (by first | assumption | omega)) (cwV 1 Z.1.2.2.2.2 gX7_letterOf_X7_holds rfl rfl rfl (by decide +kernel) ⟨Nat.le_of_ble_eq_true rfl, Nat.le_of_ble_eq_true rfl⟩) rfl (Nat.le_of_ble_eq_true rfl) ⟨Nat.le_of_ble_eq_true rfl, Nat.le_of_ble_eq_true rfl⟩ [true, false, false, false] [zO h0 6 [zi 1, .ref aS, zi ((sv : Nat) : Int), .ref aF, .ref aX, zi ((ln : Nat) : Int), zi ((ta : Nat) : Int), zi sg, zi ((f1 : Nat) : Int), zi ((l1 : Nat) : Int), zi ((f2 : Nat) : Int), zi ((l2 : Nat) : Int)], zAI ct aS 3888 g, zAZ ct aF 2 fz, zAI ct aX 80 (zN tx)] [zi (zb (decide (1 = 0)))] rfl rfl rfl rfl ?_
      refine z_ifb_ne Z 30 dX7_letterOf_25 (by decide) (fun h25 => ?_) (fun h25 => ?_)
      · have h25 := of_decide_eq_true h25
        exfalso; omega
      · have h25 := of_decide_eq_false h25
        refine z_iconst (v := 0) Z dX7_letterOf_28 rfl ?_
        refine z_eqs [zO h0 6 [zi 1, .ref aS, zi ((sv : Nat) : Int), .ref aF, .ref aX, zi ((ln : Nat) : Int), zi ((ta : Nat) : Int), zi sg, zi ((f1 : Nat) : Int), zi ((l1 : Nat) : Int), zi ((f2 : Nat) : Int), zi ((l2 : Nat) : Int)], zAI ct aS 3888 g, zAZ ct aF 2 fz, zAI ct aX 80 (zN tx)] _ [zi 0] (rfl) rfl (rfl) ?_
        exact hR _ _ () trivial dX7_letterOf_29
set_option maxHeartbeats 4000000 in
set_option maxRecDepth 100000 in
theorem zc_X7_letterOf_0 (l : Launch) (D : va_G) (ct : zCT) (h0 : Nat) (aS : Nat) (aF : Nat) (aX : Nat) (th : Int) (sg : Int) (sv : Nat) (ln : Nat) (ta : Nat) (f1 : Nat) (l1 : Nat) (f2 : Nat) (l2 : Nat) (g : Nat → Int) (fz : Nat → Int) (tx : Nat → Nat) (cnt : Nat) (id : Int) (i : Nat) (hcn : g 0 = ((cnt : Nat) : Int)) (hc : cnt ≤ 40) (hg : ∀ k, k < 432 → -2 ≤ g k ∧ g k < 70000) (hln9 : ∀ k, k < 40 → 0 ≤ mI g k 2 ∧ mI g k 2 ≤ 6) (hid : -2147483648 ≤ id ∧ id < 2147483648) (hix : i < 2147483648) (hne : fo2 (mP g id) cnt ≠ -2) : zMet l yX7_letterOf wsX7_letterOf ({ frames := 2, cells := 0, slots := 0, locals := 44 } : Room) D ct [.ref h0, zi id, zi ((i : Nat) : Int)] [zO h0 6 [zi th, .ref aS, zi ((sv : Nat) : Int), .ref aF, .ref aX, zi ((ln : Nat) : Int), zi ((ta : Nat) : Int), zi sg, zi ((f1 : Nat) : Int), zi ((l1 : Nat) : Int), zi ((f2 : Nat) : Int), zi ((l2 : Nat) : Int)], zAI ct aS 3888 g, zAZ ct aF 2 fz, zAI ct aX 80 (zN tx)] (fun _ : Unit => True) (fun _ => some (zi ((if ((i : Nat) : Int) < mI g (fo2 (mP g id) cnt).toNat 2 then mI g (fo2 (mP g id) cnt).toNat (3 + i) else -2)))) (fun _ => [zO h0 6 [zi 0, .ref aS, zi ((sv : Nat) : Int), .ref aF, .ref aX, zi ((ln : Nat) : Int), zi ((ta : Nat) : Int), zi sg, zi ((f1 : Nat) : Int), zi ((l1 : Nat) : Int), zi ((f2 : Nat) : Int), zi ((l2 : Nat) : Int)], zAI ct aS 3888 g, zAZ ct aF 2 fz, zAI ct aX 80 (zN tx)]) 0 0 := by
  refine zMet_i (cc := cX7_letterOf) (maxL := 4) (r := fun _ => (if ((i : Nat) : Int) < mI g (fo2 (mP g id) cnt).toNat 2 then mI g (fo2 (mP g id) cnt).toNat (3 + i) else -2)) (by decide) rfl (Nat.le_of_ble_eq_true rfl) ?_
  intro p e s m below meth c A Q Z hnm hR
  refine z_eqs _ [(0, .ref h0), (1, zi id), (2, zi ((i : Nat) : Int))] _ rfl rfl rfl ?_
  refine z_aload_n Z dX7_letterOf_0 0 rfl ?_
  refine z_iload_n Z dX7_letterOf_1 1 rfl ?_
  refine z_callVu (rest := []) Z dX7_letterOf_2 6 0 _ _ rfl rfl rfl (zc_X7_placeOf l D ct (h0) (aS) (aF) (aX) (th) (sg) (sv) (ln) (ta) (f1) (l1) (f2) (l2) (g) (cnt) (id) (by first | assumption | omega) (by first | assumption | omega) (by first | assumption | omega) (by first | assumption | omega)) (cwV 1 Z.1.2.2.2.2 gX7_letterOf_X7_placeOf rfl rfl rfl (by decide +kernel) ⟨Nat.le_of_ble_eq_true rfl, Nat.le_of_ble_eq_true rfl⟩) rfl (Nat.le_of_ble_eq_true rfl) ⟨Nat.le_of_ble_eq_true rfl, Nat.le_of_ble_eq_true rfl⟩ [true, true, false, false] [zO h0 6 [zi th, .ref aS, zi ((sv : Nat) : Int), .ref aF, .ref aX, zi ((ln : Nat) : Int), zi ((ta : Nat) : Int), zi sg, zi ((f1 : Nat) : Int), zi ((l1 : Nat) : Int), zi ((f2 : Nat) : Int), zi ((l2 : Nat) : Int)], zAI ct aS 3888 g, zAZ ct aF 2 fz, zAI ct aX 80 (zN tx)] [zi (fo2 (mP g id) cnt)] rfl rfl rfl rfl ?_
  have hf9 := fo2_rg (mP g id) cnt
  have hf8 := fo2_ge (mP g id) cnt
  refine z_istore_n Z dX7_letterOf_5 [(3, zi (fo2 (mP g id) cnt)), (0, .ref h0), (1, zi id), (2, zi ((i : Nat) : Int))] (by decide) rfl ?_
  refine z_aload_n Z dX7_letterOf_6 1 rfl ?_
  refine z_iload_n Z dX7_letterOf_7 0 rfl ?_
  refine z_bipush (v := -2) Z dX7_letterOf_8 (by decide +kernel) ?_
  refine z_icmp_eq Z 17 dX7_letterOf_10 (by decide) (by omega) (by omega) (fun h10 => ?_) (fun h10 => ?_)
  · exfalso; first | contradiction | omega
  · refine z_iload_n Z dX7_letterOf_13 3 rfl ?_
    refine z_if_ge Z 21 dX7_letterOf_14 (by decide) (by omega) (fun h14 => ?_) (fun h14 => ?_)
    · refine z_iconst (v := 0) Z dX7_letterOf_21 rfl ?_
      refine z_callVu (rest := []) Z dX7_letterOf_22 6 0 _ _ rfl rfl rfl (zc_X7_holds l D ct (h0) (aS) (aF) (aX) (th) (sg) (sv) (ln) (ta) (f1) (l1) (f2) (l2) (0) (by first | assumption | omega)) (cwV 1 Z.1.2.2.2.2 gX7_letterOf_X7_holds rfl rfl rfl (by decide +kernel) ⟨Nat.le_of_ble_eq_true rfl, Nat.le_of_ble_eq_true rfl⟩) rfl (Nat.le_of_ble_eq_true rfl) ⟨Nat.le_of_ble_eq_true rfl, Nat.le_of_ble_eq_true rfl⟩ [true, false, false, false] [zO h0 6 [zi 0, .ref aS, zi ((sv : Nat) : Int), .ref aF, .ref aX, zi ((ln : Nat) : Int), zi ((ta : Nat) : Int), zi sg, zi ((f1 : Nat) : Int), zi ((l1 : Nat) : Int), zi ((f2 : Nat) : Int), zi ((l2 : Nat) : Int)], zAI ct aS 3888 g, zAZ ct aF 2 fz, zAI ct aX 80 (zN tx)] [zi (zb (decide (0 = 0)))] rfl rfl rfl rfl ?_
      refine z_ifb_ne Z 30 dX7_letterOf_25 (by decide) (fun h25 => ?_) (fun h25 => ?_)
      · have h25 := of_decide_eq_true h25
        refine z_iload_n Z dX7_letterOf_30 3 rfl ?_
        refine z_aload_n Z dX7_letterOf_31 1 rfl ?_
        refine z_iload_n Z dX7_letterOf_32 0 rfl ?_
        refine z_top (y := (((fo2 (mP g id) cnt).toNat : Nat) : Int)) (by omega) ?_
        refine z_iconst (v := 2) Z dX7_letterOf_33 rfl ?_
        refine z_callVu (rest := [zi ((i : Nat) : Int)]) Z dX7_letterOf_34 6 0 _ _ rfl rfl rfl (zc_X7_of l D ct (h0) (aS) (aF) (aX) (0) (sg) (sv) (ln) (ta) (f1) (l1) (f2) (l2) (g) ((fo2 (mP g id) cnt).toNat) (2) (by first | assumption | omega) (by first | assumption | omega)) (cwV 2 Z.1.2.2.2.2 gX7_letterOf_X7_of rfl rfl rfl (by decide +kernel) ⟨Nat.le_of_ble_eq_true rfl, Nat.le_of_ble_eq_true rfl⟩) rfl (Nat.le_of_ble_eq_true rfl) ⟨Nat.le_of_ble_eq_true rfl, Nat.le_of_ble_eq_true rfl⟩ [true, true, false, false] [zO h0 6 [zi 0, .ref aS, zi ((sv : Nat) : Int), .ref aF, .ref aX, zi ((ln : Nat) : Int), zi ((ta : Nat) : Int), zi sg, zi ((f1 : Nat) : Int), zi ((l1 : Nat) : Int), zi ((f2 : Nat) : Int), zi ((l2 : Nat) : Int)], zAI ct aS 3888 g, zAZ ct aF 2 fz, zAI ct aX 80 (zN tx)] [zi (mI g ((fo2 (mP g id) cnt).toNat) 2), zi ((i : Nat) : Int)] rfl rfl rfl rfl ?_
        have hl9 := hln9 (fo2 (mP g id) cnt).toNat (by omega)
        refine z_icmp_ge Z 51 dX7_letterOf_37 (by decide) (by omega) (by omega) (fun h37 => ?_) (fun h37 => ?_)
        · refine z_bipush (v := -2) Z dX7_letterOf_51 (by decide +kernel) ?_
          refine z_eqs [zO h0 6 [zi 0, .ref aS, zi ((sv : Nat) : Int), .ref aF, .ref aX, zi ((ln : Nat) : Int), zi ((ta : Nat) : Int), zi sg, zi ((f1 : Nat) : Int), zi ((l1 : Nat) : Int), zi ((f2 : Nat) : Int), zi ((l2 : Nat) : Int)], zAI ct aS 3888 g, zAZ ct aF 2 fz, zAI ct aX 80 (zN tx)] _ [zi (if ((i : Nat) : Int) < mI g (fo2 (mP g id) cnt).toNat 2 then mI g (fo2 (mP g id) cnt).toNat (3 + i) else -2)] (rfl) rfl (congrArg (fun z => [zi z]) (by rw [if_neg (by omega)])) ?_
          exact hR _ _ () trivial dX7_letterOf_53
        · refine z_aload_n Z dX7_letterOf_40 1 rfl ?_
          refine z_iload_n Z dX7_letterOf_41 0 rfl ?_
          refine z_top (y := (((fo2 (mP g id) cnt).toNat : Nat) : Int)) (by omega) ?_
          refine z_iconst (v := 3) Z dX7_letterOf_42 rfl ?_
          refine z_iload_n Z dX7_letterOf_43 3 rfl ?_
          refine z_iadd Z dX7_letterOf_44 ?_
          refine z_top (y := ((3 + i : Nat) : Int)) (by omega) ?_
          refine z_callVu (rest := []) Z dX7_letterOf_45 6 0 _ _ rfl rfl rfl (zc_X7_of l D ct (h0) (aS) (aF) (aX) (0) (sg) (sv) (ln) (ta) (f1) (l1) (f2) (l2) (g) ((fo2 (mP g id) cnt).toNat) (3 + i) (by first | assumption | omega) (by first | assumption | omega)) (cwV 2 Z.1.2.2.2.2 gX7_letterOf_X7_of rfl rfl rfl (by decide +kernel) ⟨Nat.le_of_ble_eq_true rfl, Nat.le_of_ble_eq_true rfl⟩) rfl (Nat.le_of_ble_eq_true rfl) ⟨Nat.le_of_ble_eq_true rfl, Nat.le_of_ble_eq_true rfl⟩ [true, true, false, false] [zO h0 6 [zi 0, .ref aS, zi ((sv : Nat) : Int), .ref aF, .ref aX, zi ((ln : Nat) : Int), zi ((ta : Nat) : Int), zi sg, zi ((f1 : Nat) : Int), zi ((l1 : Nat) : Int), zi ((f2 : Nat) : Int), zi ((l2 : Nat) : Int)], zAI ct aS 3888 g, zAZ ct aF 2 fz, zAI ct aX 80 (zN tx)] [zi (mI g ((fo2 (mP g id) cnt).toNat) (3 + i))] rfl rfl rfl rfl ?_
          refine z_goto Z 53 dX7_letterOf_48 (by decide) ?_
          refine z_eqs [zO h0 6 [zi 0, .ref aS, zi ((sv : Nat) : Int), .ref aF, .ref aX, zi ((ln : Nat) : Int), zi ((ta : Nat) : Int), zi sg, zi ((f1 : Nat) : Int), zi ((l1 : Nat) : Int), zi ((f2 : Nat) : Int), zi ((l2 : Nat) : Int)], zAI ct aS 3888 g, zAZ ct aF 2 fz, zAI ct aX 80 (zN tx)] _ [zi (if ((i : Nat) : Int) < mI g (fo2 (mP g id) cnt).toNat 2 then mI g (fo2 (mP g id) cnt).toNat (3 + i) else -2)] (rfl) rfl (congrArg (fun z => [zi z]) (by rw [if_pos (by omega)])) ?_
          exact hR _ _ () trivial dX7_letterOf_53
      · have h25 := of_decide_eq_false h25
        exfalso; first | contradiction | omega
    · exfalso; first | contradiction | omega
set_option maxHeartbeats 4000000 in
set_option maxRecDepth 100000 in
theorem zc_X7_withHash_1 (l : Launch) (D : va_G) (ct : zCT) (h0 : Nat) (aS : Nat) (aF : Nat) (aX : Nat) (th : Int) (sg : Int) (sv : Nat) (ln : Nat) (ta : Nat) (f1 : Nat) (l1 : Nat) (f2 : Nat) (l2 : Nat) (g : Nat → Int) (fz : Nat → Int) (tx : Nat → Nat) (h : Int) (hh : -2147483648 ≤ h ∧ h < 2147483648) (hhh : ¬ (0 ≤ h ∧ h ≤ 63)) : zMet l yX7_withHash wsX7_withHash ({ frames := 2, cells := 0, slots := 0, locals := 42 } : Room) D ct [.ref h0, zi h] [zO h0 6 [zi th, .ref aS, zi ((sv : Nat) : Int), .ref aF, .ref aX, zi ((ln : Nat) : Int), zi ((ta : Nat) : Int), zi sg, zi ((f1 : Nat) : Int), zi ((l1 : Nat) : Int), zi ((f2 : Nat) : Int), zi ((l2 : Nat) : Int)], zAI ct aS 3888 g, zAZ ct aF 2 fz, zAI ct aX 80 (zN tx)] (fun _ : Unit => True) (fun _ => some (zi (0))) (fun _ => [zO h0 6 [zi 1, .ref aS, zi ((sv : Nat) : Int), .ref aF, .ref aX, zi ((ln : Nat) : Int), zi ((ta : Nat) : Int), zi sg, zi ((f1 : Nat) : Int), zi ((l1 : Nat) : Int), zi ((f2 : Nat) : Int), zi ((l2 : Nat) : Int)], zAI ct aS 3888 g, zAZ ct aF 2 fz, zAI ct aX 80 (zN tx)]) 0 0 := by
  refine zMet_i (cc := cX7_withHash) (maxL := 2) (r := fun _ => 0) (by decide) rfl (Nat.le_of_ble_eq_true rfl) ?_
  intro p e s m below meth c A Q Z hnm hR
  refine z_eqs _ [(0, .ref h0), (1, zi h)] _ rfl rfl rfl ?_
  refine z_aload_n Z dX7_withHash_0 0 rfl ?_
  refine z_iload_n Z dX7_withHash_1 1 rfl ?_
  refine z_callSu (rest := [.ref h0]) Z dX7_withHash_2 (zc_X7_isHash l D ct (h) (by first | assumption | omega)) (va_cwS 1 Z.1.2.2.2.2 gX7_withHash_X7_isHash rfl rfl rfl (by decide +kernel) ⟨Nat.le_of_ble_eq_true rfl, Nat.le_of_ble_eq_true rfl⟩) rfl (Nat.le_of_ble_eq_true rfl) ⟨Nat.le_of_ble_eq_true rfl, Nat.le_of_ble_eq_true rfl⟩ [false, false, false, false] [zO h0 6 [zi th, .ref aS, zi ((sv : Nat) : Int), .ref aF, .ref aX, zi ((ln : Nat) : Int), zi ((ta : Nat) : Int), zi sg, zi ((f1 : Nat) : Int), zi ((l1 : Nat) : Int), zi ((f2 : Nat) : Int), zi ((l2 : Nat) : Int)], zAI ct aS 3888 g, zAZ ct aF 2 fz, zAI ct aX 80 (zN tx)] [zi (zb (decide (0 ≤ h ∧ h ≤ 63))), .ref h0] rfl rfl rfl rfl ?_
  refine z_ifb_eq Z 12 dX7_withHash_5 (by decide) (fun h5 => ?_) (fun h5 => ?_)
  · have h5 := of_decide_eq_false h5
    refine z_iconst (v := 1) Z dX7_withHash_12 rfl ?_
    refine z_callVu (rest := []) Z dX7_withHash_13 6 0 _ _ rfl rfl rfl (zc_X7_holds l D ct (h0) (aS) (aF) (aX) (th) (sg) (sv) (ln) (ta) (f1) (l1) (f2) (l2) (1) (by first | assumption | omega)) (cwV 1 Z.1.2.2.2.2 gX7_withHash_X7_holds rfl rfl rfl (by decide +kernel) ⟨Nat.le_of_ble_eq_true rfl, Nat.le_of_ble_eq_true rfl⟩) rfl (Nat.le_of_ble_eq_true rfl) ⟨Nat.le_of_ble_eq_true rfl, Nat.le_of_ble_eq_true rfl⟩ [true, false, false, false] [zO h0 6 [zi 1, .ref aS, zi ((sv : Nat) : Int), .ref aF, .ref aX, zi ((ln : Nat) : Int), zi ((ta : Nat) : Int), zi sg, zi ((f1 : Nat) : Int), zi ((l1 : Nat) : Int), zi ((f2 : Nat) : Int), zi ((l2 : Nat) : Int)], zAI ct aS 3888 g, zAZ ct aF 2 fz, zAI ct aX 80 (zN tx)] [zi (zb (decide (1 = 0)))] rfl rfl rfl rfl ?_
    refine z_ifb_eq Z 29 dX7_withHash_16 (by decide) (fun h16 => ?_) (fun h16 => ?_)
    · have h16 := of_decide_eq_false h16
      refine z_iconst (v := 0) Z dX7_withHash_29 rfl ?_
      refine z_eqs [zO h0 6 [zi 1, .ref aS, zi ((sv : Nat) : Int), .ref aF, .ref aX, zi ((ln : Nat) : Int), zi ((ta : Nat) : Int), zi sg, zi ((f1 : Nat) : Int), zi ((l1 : Nat) : Int), zi ((f2 : Nat) : Int), zi ((l2 : Nat) : Int)], zAI ct aS 3888 g, zAZ ct aF 2 fz, zAI ct aX 80 (zN tx)] _ [zi 0] (rfl) rfl (rfl) ?_
      exact hR _ _ () trivial dX7_withHash_30
    · have h16 := of_decide_eq_true h16
      exfalso; first | contradiction | omega
  · have h5 := of_decide_eq_true h5
    exfalso; first | contradiction | omega
set_option maxHeartbeats 4000000 in
set_option maxRecDepth 100000 in
theorem zc_X7_depthOf_1 (l : Launch) (D : va_G) (ct : zCT) (h0 : Nat) (aS : Nat) (aF : Nat) (aX : Nat) (th : Int) (sg : Int) (sv : Nat) (ln : Nat) (ta : Nat) (f1 : Nat) (l1 : Nat) (f2 : Nat) (l2 : Nat) (g : Nat → Int) (fz : Nat → Int) (tx : Nat → Nat) (h : Int) (hh : -2147483648 ≤ h ∧ h < 2147483648) (hhh : ¬ (0 ≤ h ∧ h ≤ 63)) : zMet l yX7_depthOf wsX7_depthOf ({ frames := 2, cells := 0, slots := 0, locals := 42 } : Room) D ct [.ref h0, zi h] [zO h0 6 [zi th, .ref aS, zi ((sv : Nat) : Int), .ref aF, .ref aX, zi ((ln : Nat) : Int), zi ((ta : Nat) : Int), zi sg, zi ((f1 : Nat) : Int), zi ((l1 : Nat) : Int), zi ((f2 : Nat) : Int), zi ((l2 : Nat) : Int)], zAI ct aS 3888 g, zAZ ct aF 2 fz, zAI ct aX 80 (zN tx)] (fun _ : Unit => True) (fun _ => some (zi (0))) (fun _ => [zO h0 6 [zi 1, .ref aS, zi ((sv : Nat) : Int), .ref aF, .ref aX, zi ((ln : Nat) : Int), zi ((ta : Nat) : Int), zi sg, zi ((f1 : Nat) : Int), zi ((l1 : Nat) : Int), zi ((f2 : Nat) : Int), zi ((l2 : Nat) : Int)], zAI ct aS 3888 g, zAZ ct aF 2 fz, zAI ct aX 80 (zN tx)]) 0 0 := by
  refine zMet_i (cc := cX7_depthOf) (maxL := 2) (r := fun _ => 0) (by decide) rfl (Nat.le_of_ble_eq_true rfl) ?_
  intro p e s m below meth c A Q Z hnm hR
  refine z_eqs _ [(0, .ref h0), (1, zi h)] _ rfl rfl rfl ?_
  refine z_aload_n Z dX7_depthOf_0 0 rfl ?_
  refine z_iload_n Z dX7_depthOf_1 1 rfl ?_
  refine z_callSu (rest := [.ref h0]) Z dX7_depthOf_2 (zc_X7_isHash l D ct (h) (by first | assumption | omega)) (va_cwS 1 Z.1.2.2.2.2 gX7_depthOf_X7_isHash rfl rfl rfl (by decide +kernel) ⟨Nat.le_of_ble_eq_true rfl, Nat.le_of_ble_eq_true rfl⟩) rfl (Nat.le_of_ble_eq_true rfl) ⟨Nat.le_of_ble_eq_true rfl, Nat.le_of_ble_eq_true rfl⟩ [false, false, false, false] [zO h0 6 [zi th, .ref aS, zi ((sv : Nat) : Int), .ref aF, .ref aX, zi ((ln : Nat) : Int), zi ((ta : Nat) : Int), zi sg, zi ((f1 : Nat) : Int), zi ((l1 : Nat) : Int), zi ((f2 : Nat) : Int), zi ((l2 : Nat) : Int)], zAI ct aS 3888 g, zAZ ct aF 2 fz, zAI ct aX 80 (zN tx)] [zi (zb (decide (0 ≤ h ∧ h ≤ 63))), .ref h0] rfl rfl rfl rfl ?_
  refine z_ifb_eq Z 12 dX7_depthOf_5 (by decide) (fun h5 => ?_) (fun h5 => ?_)
  · have h5 := of_decide_eq_false h5
    refine z_iconst (v := 1) Z dX7_depthOf_12 rfl ?_
    refine z_callVu (rest := []) Z dX7_depthOf_13 6 0 _ _ rfl rfl rfl (zc_X7_holds l D ct (h0) (aS) (aF) (aX) (th) (sg) (sv) (ln) (ta) (f1) (l1) (f2) (l2) (1) (by first | assumption | omega)) (cwV 1 Z.1.2.2.2.2 gX7_depthOf_X7_holds rfl rfl rfl (by decide +kernel) ⟨Nat.le_of_ble_eq_true rfl, Nat.le_of_ble_eq_true rfl⟩) rfl (Nat.le_of_ble_eq_true rfl) ⟨Nat.le_of_ble_eq_true rfl, Nat.le_of_ble_eq_true rfl⟩ [true, false, false, false] [zO h0 6 [zi 1, .ref aS, zi ((sv : Nat) : Int), .ref aF, .ref aX, zi ((ln : Nat) : Int), zi ((ta : Nat) : Int), zi sg, zi ((f1 : Nat) : Int), zi ((l1 : Nat) : Int), zi ((f2 : Nat) : Int), zi ((l2 : Nat) : Int)], zAI ct aS 3888 g, zAZ ct aF 2 fz, zAI ct aX 80 (zN tx)] [zi (zb (decide (1 = 0)))] rfl rfl rfl rfl ?_
    refine z_ifb_eq Z 27 dX7_depthOf_16 (by decide) (fun h16 => ?_) (fun h16 => ?_)
    · have h16 := of_decide_eq_false h16
      refine z_iconst (v := 0) Z dX7_depthOf_27 rfl ?_
      refine z_eqs [zO h0 6 [zi 1, .ref aS, zi ((sv : Nat) : Int), .ref aF, .ref aX, zi ((ln : Nat) : Int), zi ((ta : Nat) : Int), zi sg, zi ((f1 : Nat) : Int), zi ((l1 : Nat) : Int), zi ((f2 : Nat) : Int), zi ((l2 : Nat) : Int)], zAI ct aS 3888 g, zAZ ct aF 2 fz, zAI ct aX 80 (zN tx)] _ [zi 0] (rfl) rfl (rfl) ?_
      exact hR _ _ () trivial dX7_depthOf_28
    · have h16 := of_decide_eq_true h16
      exfalso; first | contradiction | omega
  · have h5 := of_decide_eq_true h5
    exfalso; first | contradiction | omega
set_option maxHeartbeats 4000000 in
set_option maxRecDepth 100000 in
theorem zc_X7_leafSize_1 (l : Launch) (D : va_G) (ct : zCT) (h0 : Nat) (aS : Nat) (aF : Nat) (aX : Nat) (th : Int) (sg : Int) (sv : Nat) (ln : Nat) (ta : Nat) (f1 : Nat) (l1 : Nat) (f2 : Nat) (l2 : Nat) (g : Nat → Int) (fz : Nat → Int) (tx : Nat → Nat) (h : Int) (hh : -2147483648 ≤ h ∧ h < 2147483648) (hhh : ¬ (0 ≤ h ∧ h ≤ 63)) : zMet l yX7_leafSize wsX7_leafSize ({ frames := 2, cells := 0, slots := 0, locals := 42 } : Room) D ct [.ref h0, zi h] [zO h0 6 [zi th, .ref aS, zi ((sv : Nat) : Int), .ref aF, .ref aX, zi ((ln : Nat) : Int), zi ((ta : Nat) : Int), zi sg, zi ((f1 : Nat) : Int), zi ((l1 : Nat) : Int), zi ((f2 : Nat) : Int), zi ((l2 : Nat) : Int)], zAI ct aS 3888 g, zAZ ct aF 2 fz, zAI ct aX 80 (zN tx)] (fun _ : Unit => True) (fun _ => some (zi (0))) (fun _ => [zO h0 6 [zi 1, .ref aS, zi ((sv : Nat) : Int), .ref aF, .ref aX, zi ((ln : Nat) : Int), zi ((ta : Nat) : Int), zi sg, zi ((f1 : Nat) : Int), zi ((l1 : Nat) : Int), zi ((f2 : Nat) : Int), zi ((l2 : Nat) : Int)], zAI ct aS 3888 g, zAZ ct aF 2 fz, zAI ct aX 80 (zN tx)]) 0 0 := by
  refine zMet_i (cc := cX7_leafSize) (maxL := 2) (r := fun _ => 0) (by decide) rfl (Nat.le_of_ble_eq_true rfl) ?_
  intro p e s m below meth c A Q Z hnm hR
  refine z_eqs _ [(0, .ref h0), (1, zi h)] _ rfl rfl rfl ?_
  refine z_aload_n Z dX7_leafSize_0 0 rfl ?_
  refine z_iload_n Z dX7_leafSize_1 1 rfl ?_
  refine z_callSu (rest := [.ref h0]) Z dX7_leafSize_2 (zc_X7_isHash l D ct (h) (by first | assumption | omega)) (va_cwS 1 Z.1.2.2.2.2 gX7_leafSize_X7_isHash rfl rfl rfl (by decide +kernel) ⟨Nat.le_of_ble_eq_true rfl, Nat.le_of_ble_eq_true rfl⟩) rfl (Nat.le_of_ble_eq_true rfl) ⟨Nat.le_of_ble_eq_true rfl, Nat.le_of_ble_eq_true rfl⟩ [false, false, false, false] [zO h0 6 [zi th, .ref aS, zi ((sv : Nat) : Int), .ref aF, .ref aX, zi ((ln : Nat) : Int), zi ((ta : Nat) : Int), zi sg, zi ((f1 : Nat) : Int), zi ((l1 : Nat) : Int), zi ((f2 : Nat) : Int), zi ((l2 : Nat) : Int)], zAI ct aS 3888 g, zAZ ct aF 2 fz, zAI ct aX 80 (zN tx)] [zi (zb (decide (0 ≤ h ∧ h ≤ 63))), .ref h0] rfl rfl rfl rfl ?_
  refine z_ifb_eq Z 12 dX7_leafSize_5 (by decide) (fun h5 => ?_) (fun h5 => ?_)
  · have h5 := of_decide_eq_false h5
    refine z_iconst (v := 1) Z dX7_leafSize_12 rfl ?_
    refine z_callVu (rest := []) Z dX7_leafSize_13 6 0 _ _ rfl rfl rfl (zc_X7_holds l D ct (h0) (aS) (aF) (aX) (th) (sg) (sv) (ln) (ta) (f1) (l1) (f2) (l2) (1) (by first | assumption | omega)) (cwV 1 Z.1.2.2.2.2 gX7_leafSize_X7_holds rfl rfl rfl (by decide +kernel) ⟨Nat.le_of_ble_eq_true rfl, Nat.le_of_ble_eq_true rfl⟩) rfl (Nat.le_of_ble_eq_true rfl) ⟨Nat.le_of_ble_eq_true rfl, Nat.le_of_ble_eq_true rfl⟩ [true, false, false, false] [zO h0 6 [zi 1, .ref aS, zi ((sv : Nat) : Int), .ref aF, .ref aX, zi ((ln : Nat) : Int), zi ((ta : Nat) : Int), zi sg, zi ((f1 : Nat) : Int), zi ((l1 : Nat) : Int), zi ((f2 : Nat) : Int), zi ((l2 : Nat) : Int)], zAI ct aS 3888 g, zAZ ct aF 2 fz, zAI ct aX 80 (zN tx)] [zi (zb (decide (1 = 0)))] rfl rfl rfl rfl ?_
    refine z_ifb_eq Z 32 dX7_leafSize_16 (by decide) (fun h16 => ?_) (fun h16 => ?_)
    · have h16 := of_decide_eq_false h16
      refine z_iconst (v := 0) Z dX7_leafSize_32 rfl ?_
      refine z_eqs [zO h0 6 [zi 1, .ref aS, zi ((sv : Nat) : Int), .ref aF, .ref aX, zi ((ln : Nat) : Int), zi ((ta : Nat) : Int), zi sg, zi ((f1 : Nat) : Int), zi ((l1 : Nat) : Int), zi ((f2 : Nat) : Int), zi ((l2 : Nat) : Int)], zAI ct aS 3888 g, zAZ ct aF 2 fz, zAI ct aX 80 (zN tx)] _ [zi 0] (rfl) rfl (rfl) ?_
      exact hR _ _ () trivial dX7_leafSize_33
    · have h16 := of_decide_eq_true h16
      exfalso; first | contradiction | omega
  · have h5 := of_decide_eq_true h5
    exfalso; first | contradiction | omega
set_option maxHeartbeats 4000000 in
set_option maxRecDepth 100000 in
theorem zc_X7_withHash_0 (l : Launch) (D : va_G) (ct : zCT) (h0 : Nat) (aS : Nat) (aF : Nat) (aX : Nat) (th : Int) (sg : Int) (sv : Nat) (ln : Nat) (ta : Nat) (f1 : Nat) (l1 : Nat) (f2 : Nat) (l2 : Nat) (g : Nat → Int) (fz : Nat → Int) (tx : Nat → Nat) (cnt : Nat) (h : Nat) (hcn : g 0 = ((cnt : Nat) : Int)) (hc : cnt ≤ 40) (hg : ∀ k, k < 432 → -2 ≤ g k ∧ g k < 70000) (hhs : ∀ k, k < 40 → 0 ≤ mI g k 1 ∧ mI g k 1 < 64) (hh : h < 64) : zMet l yX7_withHash wsX7_withHash ({ frames := 2, cells := 0, slots := 0, locals := 46 } : Room) D ct [.ref h0, zi ((h : Nat) : Int)] [zO h0 6 [zi th, .ref aS, zi ((sv : Nat) : Int), .ref aF, .ref aX, zi ((ln : Nat) : Int), zi ((ta : Nat) : Int), zi sg, zi ((f1 : Nat) : Int), zi ((l1 : Nat) : Int), zi ((f2 : Nat) : Int), zi ((l2 : Nat) : Int)], zAI ct aS 3888 g, zAZ ct aF 2 fz, zAI ct aX 80 (zN tx)] (fun _ : Unit => True) (fun _ => some (zi (((bgF g h 6 cnt : Nat) : Int)))) (fun _ => [zO h0 6 [zi 0, .ref aS, zi ((sv : Nat) : Int), .ref aF, .ref aX, zi ((ln : Nat) : Int), zi ((ta : Nat) : Int), zi sg, zi ((f1 : Nat) : Int), zi ((l1 : Nat) : Int), zi ((f2 : Nat) : Int), zi ((l2 : Nat) : Int)], zAI ct aS 3888 g, zAZ ct aF 2 fz, zAI ct aX 80 (zN tx)]) 0 0 := by
  refine zMet_i (cc := cX7_withHash) (maxL := 2) (r := fun _ => ((bgF g h 6 cnt : Nat) : Int)) (by decide) rfl (Nat.le_of_ble_eq_true rfl) ?_
  intro p e s m below meth c A Q Z hnm hR
  refine z_eqs _ [(0, .ref h0), (1, zi ((h : Nat) : Int))] _ rfl rfl rfl ?_
  refine z_aload_n Z dX7_withHash_0 0 rfl ?_
  refine z_iload_n Z dX7_withHash_1 1 rfl ?_
  refine z_callSu (rest := [.ref h0]) Z dX7_withHash_2 (zc_X7_isHash l D ct (((h : Nat) : Int)) (by first | assumption | omega)) (va_cwS 1 Z.1.2.2.2.2 gX7_withHash_X7_isHash rfl rfl rfl (by decide +kernel) ⟨Nat.le_of_ble_eq_true rfl, Nat.le_of_ble_eq_true rfl⟩) rfl (Nat.le_of_ble_eq_true rfl) ⟨Nat.le_of_ble_eq_true rfl, Nat.le_of_ble_eq_true rfl⟩ [false, false, false, false] [zO h0 6 [zi th, .ref aS, zi ((sv : Nat) : Int), .ref aF, .ref aX, zi ((ln : Nat) : Int), zi ((ta : Nat) : Int), zi sg, zi ((f1 : Nat) : Int), zi ((l1 : Nat) : Int), zi ((f2 : Nat) : Int), zi ((l2 : Nat) : Int)], zAI ct aS 3888 g, zAZ ct aF 2 fz, zAI ct aX 80 (zN tx)] [zi (zb (decide (0 ≤ ((h : Nat) : Int) ∧ ((h : Nat) : Int) ≤ 63))), .ref h0] rfl rfl rfl rfl ?_
  refine z_ifb_eq Z 12 dX7_withHash_5 (by decide) (fun h5 => ?_) (fun h5 => ?_)
  · have h5 := of_decide_eq_false h5
    exfalso; first | contradiction | omega
  · have h5 := of_decide_eq_true h5
    refine z_iconst (v := 0) Z dX7_withHash_8 rfl ?_
    refine z_goto Z 13 dX7_withHash_9 (by decide) ?_
    refine z_callVu (rest := []) Z dX7_withHash_13 6 0 _ _ rfl rfl rfl (zc_X7_holds l D ct (h0) (aS) (aF) (aX) (th) (sg) (sv) (ln) (ta) (f1) (l1) (f2) (l2) (0) (by first | assumption | omega)) (cwV 1 Z.1.2.2.2.2 gX7_withHash_X7_holds rfl rfl rfl (by decide +kernel) ⟨Nat.le_of_ble_eq_true rfl, Nat.le_of_ble_eq_true rfl⟩) rfl (Nat.le_of_ble_eq_true rfl) ⟨Nat.le_of_ble_eq_true rfl, Nat.le_of_ble_eq_true rfl⟩ [true, false, false, false] [zO h0 6 [zi 0, .ref aS, zi ((sv : Nat) : Int), .ref aF, .ref aX, zi ((ln : Nat) : Int), zi ((ta : Nat) : Int), zi sg, zi ((f1 : Nat) : Int), zi ((l1 : Nat) : Int), zi ((f2 : Nat) : Int), zi ((l2 : Nat) : Int)], zAI ct aS 3888 g, zAZ ct aF 2 fz, zAI ct aX 80 (zN tx)] [zi (zb (decide (0 = 0)))] rfl rfl rfl rfl ?_
    refine z_ifb_eq Z 29 dX7_withHash_16 (by decide) (fun h16 => ?_) (fun h16 => ?_)
    · have h16 := of_decide_eq_false h16
      exfalso; first | contradiction | omega
    · have h16 := of_decide_eq_true h16
      refine z_aload_n Z dX7_withHash_19 0 rfl ?_
      refine z_iload_n Z dX7_withHash_20 1 rfl ?_
      refine z_bipush (v := 6) Z dX7_withHash_21 (by decide +kernel) ?_
      refine z_callVu (rest := []) Z dX7_withHash_23 6 0 _ _ rfl rfl rfl (zc_X7_beginning l D ct (h0) (aS) (aF) (aX) (0) (sg) (sv) (ln) (ta) (f1) (l1) (f2) (l2) (g) (cnt) (h) (6) (by first | assumption | omega) (by first | assumption | omega) (by first | assumption | omega) (by first | assumption | omega) (by first | assumption | omega) (by first | assumption | omega)) (cwV 2 Z.1.2.2.2.2 gX7_withHash_X7_beginning rfl rfl rfl (by decide +kernel) ⟨Nat.le_of_ble_eq_true rfl, Nat.le_of_ble_eq_true rfl⟩) rfl (Nat.le_of_ble_eq_true rfl) ⟨Nat.le_of_ble_eq_true rfl, Nat.le_of_ble_eq_true rfl⟩ [true, true, false, false] [zO h0 6 [zi 0, .ref aS, zi ((sv : Nat) : Int), .ref aF, .ref aX, zi ((ln : Nat) : Int), zi ((ta : Nat) : Int), zi sg, zi ((f1 : Nat) : Int), zi ((l1 : Nat) : Int), zi ((f2 : Nat) : Int), zi ((l2 : Nat) : Int)], zAI ct aS 3888 g, zAZ ct aF 2 fz, zAI ct aX 80 (zN tx)] [zi ((bgF g h 6 cnt : Nat) : Int)] rfl rfl rfl rfl ?_
      refine z_goto Z 30 dX7_withHash_26 (by decide) ?_
      refine z_eqs [zO h0 6 [zi 0, .ref aS, zi ((sv : Nat) : Int), .ref aF, .ref aX, zi ((ln : Nat) : Int), zi ((ta : Nat) : Int), zi sg, zi ((f1 : Nat) : Int), zi ((l1 : Nat) : Int), zi ((f2 : Nat) : Int), zi ((l2 : Nat) : Int)], zAI ct aS 3888 g, zAZ ct aF 2 fz, zAI ct aX 80 (zN tx)] _ [zi ((bgF g h 6 cnt : Nat) : Int)] (rfl) rfl (rfl) ?_
      exact hR _ _ () trivial dX7_withHash_30
set_option maxHeartbeats 4000000 in
set_option maxRecDepth 100000 in
theorem zc_X7_depthOf_0 (l : Launch) (D : va_G) (ct : zCT) (h0 : Nat) (aS : Nat) (aF : Nat) (aX : Nat) (th : Int) (sg : Int) (sv : Nat) (ln : Nat) (ta : Nat) (f1 : Nat) (l1 : Nat) (f2 : Nat) (l2 : Nat) (g : Nat → Int) (fz : Nat → Int) (tx : Nat → Nat) (cnt : Nat) (h : Nat) (hcn : g 0 = ((cnt : Nat) : Int)) (hc : cnt ≤ 40) (hg : ∀ k, k < 432 → -2 ≤ g k ∧ g k < 70000) (hh : h < 64) : zMet l yX7_depthOf wsX7_depthOf ({ frames := 2, cells := 0, slots := 0, locals := 42 } : Room) D ct [.ref h0, zi ((h : Nat) : Int)] [zO h0 6 [zi th, .ref aS, zi ((sv : Nat) : Int), .ref aF, .ref aX, zi ((ln : Nat) : Int), zi ((ta : Nat) : Int), zi sg, zi ((f1 : Nat) : Int), zi ((l1 : Nat) : Int), zi ((f2 : Nat) : Int), zi ((l2 : Nat) : Int)], zAI ct aS 3888 g, zAZ ct aF 2 fz, zAI ct aX 80 (zN tx)] (fun _ : Unit => True) (fun _ => some (zi (((dpF g h 6 0 : Nat) : Int)))) (fun _ => [zO h0 6 [zi 0, .ref aS, zi ((sv : Nat) : Int), .ref aF, .ref aX, zi ((ln : Nat) : Int), zi ((ta : Nat) : Int), zi sg, zi ((f1 : Nat) : Int), zi ((l1 : Nat) : Int), zi ((f2 : Nat) : Int), zi ((l2 : Nat) : Int)], zAI ct aS 3888 g, zAZ ct aF 2 fz, zAI ct aX 80 (zN tx)]) 0 0 := by
  refine zMet_i (cc := cX7_depthOf) (maxL := 2) (r := fun _ => ((dpF g h 6 0 : Nat) : Int)) (by decide) rfl (Nat.le_of_ble_eq_true rfl) ?_
  intro p e s m below meth c A Q Z hnm hR
  refine z_eqs _ [(0, .ref h0), (1, zi ((h : Nat) : Int))] _ rfl rfl rfl ?_
  refine z_aload_n Z dX7_depthOf_0 0 rfl ?_
  refine z_iload_n Z dX7_depthOf_1 1 rfl ?_
  refine z_callSu (rest := [.ref h0]) Z dX7_depthOf_2 (zc_X7_isHash l D ct (((h : Nat) : Int)) (by first | assumption | omega)) (va_cwS 1 Z.1.2.2.2.2 gX7_depthOf_X7_isHash rfl rfl rfl (by decide +kernel) ⟨Nat.le_of_ble_eq_true rfl, Nat.le_of_ble_eq_true rfl⟩) rfl (Nat.le_of_ble_eq_true rfl) ⟨Nat.le_of_ble_eq_true rfl, Nat.le_of_ble_eq_true rfl⟩ [false, false, false, false] [zO h0 6 [zi th, .ref aS, zi ((sv : Nat) : Int), .ref aF, .ref aX, zi ((ln : Nat) : Int), zi ((ta : Nat) : Int), zi sg, zi ((f1 : Nat) : Int), zi ((l1 : Nat) : Int), zi ((f2 : Nat) : Int), zi ((l2 : Nat) : Int)], zAI ct aS 3888 g, zAZ ct aF 2 fz, zAI ct aX 80 (zN tx)] [zi (zb (decide (0 ≤ ((h : Nat) : Int) ∧ ((h : Nat) : Int) ≤ 63))), .ref h0] rfl rfl rfl rfl ?_
  refine z_ifb_eq Z 12 dX7_depthOf_5 (by decide) (fun h5 => ?_) (fun h5 => ?_)
  · have h5 := of_decide_eq_false h5
    exfalso; first | contradiction | omega
  · have h5 := of_decide_eq_true h5
    refine z_iconst (v := 0) Z dX7_depthOf_8 rfl ?_
    refine z_goto Z 13 dX7_depthOf_9 (by decide) ?_
    refine z_callVu (rest := []) Z dX7_depthOf_13 6 0 _ _ rfl rfl rfl (zc_X7_holds l D ct (h0) (aS) (aF) (aX) (th) (sg) (sv) (ln) (ta) (f1) (l1) (f2) (l2) (0) (by first | assumption | omega)) (cwV 1 Z.1.2.2.2.2 gX7_depthOf_X7_holds rfl rfl rfl (by decide +kernel) ⟨Nat.le_of_ble_eq_true rfl, Nat.le_of_ble_eq_true rfl⟩) rfl (Nat.le_of_ble_eq_true rfl) ⟨Nat.le_of_ble_eq_true rfl, Nat.le_of_ble_eq_true rfl⟩ [true, false, false, false] [zO h0 6 [zi 0, .ref aS, zi ((sv : Nat) : Int), .ref aF, .ref aX, zi ((ln : Nat) : Int), zi ((ta : Nat) : Int), zi sg, zi ((f1 : Nat) : Int), zi ((l1 : Nat) : Int), zi ((f2 : Nat) : Int), zi ((l2 : Nat) : Int)], zAI ct aS 3888 g, zAZ ct aF 2 fz, zAI ct aX 80 (zN tx)] [zi (zb (decide (0 = 0)))] rfl rfl rfl rfl ?_
    refine z_ifb_eq Z 27 dX7_depthOf_16 (by decide) (fun h16 => ?_) (fun h16 => ?_)
    · have h16 := of_decide_eq_false h16
      exfalso; first | contradiction | omega
    · have h16 := of_decide_eq_true h16
      refine z_aload_n Z dX7_depthOf_19 0 rfl ?_
      refine z_iload_n Z dX7_depthOf_20 1 rfl ?_
      refine z_callVu (rest := []) Z dX7_depthOf_21 6 0 _ _ rfl rfl rfl (zc_X7_depthAt l D ct (h0) (aS) (aF) (aX) (0) (sg) (sv) (ln) (ta) (f1) (l1) (f2) (l2) (g) (h) (by first | assumption | omega) (by first | assumption | omega)) (cwV 1 Z.1.2.2.2.2 gX7_depthOf_X7_depthAt rfl rfl rfl (by decide +kernel) ⟨Nat.le_of_ble_eq_true rfl, Nat.le_of_ble_eq_true rfl⟩) rfl (Nat.le_of_ble_eq_true rfl) ⟨Nat.le_of_ble_eq_true rfl, Nat.le_of_ble_eq_true rfl⟩ [true, true, false, false] [zO h0 6 [zi 0, .ref aS, zi ((sv : Nat) : Int), .ref aF, .ref aX, zi ((ln : Nat) : Int), zi ((ta : Nat) : Int), zi sg, zi ((f1 : Nat) : Int), zi ((l1 : Nat) : Int), zi ((f2 : Nat) : Int), zi ((l2 : Nat) : Int)], zAI ct aS 3888 g, zAZ ct aF 2 fz, zAI ct aX 80 (zN tx)] [zi ((dpF g h 6 0 : Nat) : Int)] rfl rfl rfl rfl ?_
      refine z_goto Z 28 dX7_depthOf_24 (by decide) ?_
      refine z_eqs [zO h0 6 [zi 0, .ref aS, zi ((sv : Nat) : Int), .ref aF, .ref aX, zi ((ln : Nat) : Int), zi ((ta : Nat) : Int), zi sg, zi ((f1 : Nat) : Int), zi ((l1 : Nat) : Int), zi ((f2 : Nat) : Int), zi ((l2 : Nat) : Int)], zAI ct aS 3888 g, zAZ ct aF 2 fz, zAI ct aX 80 (zN tx)] _ [zi ((dpF g h 6 0 : Nat) : Int)] (rfl) rfl (rfl) ?_
      exact hR _ _ () trivial dX7_depthOf_28
set_option maxHeartbeats 4000000 in
set_option maxRecDepth 100000 in
theorem zc_X7_leafSize_0 (l : Launch) (D : va_G) (ct : zCT) (h0 : Nat) (aS : Nat) (aF : Nat) (aX : Nat) (th : Int) (sg : Int) (sv : Nat) (ln : Nat) (ta : Nat) (f1 : Nat) (l1 : Nat) (f2 : Nat) (l2 : Nat) (g : Nat → Int) (fz : Nat → Int) (tx : Nat → Nat) (cnt : Nat) (h : Nat) (hcn : g 0 = ((cnt : Nat) : Int)) (hc : cnt ≤ 40) (hg : ∀ k, k < 432 → -2 ≤ g k ∧ g k < 70000) (hhs : ∀ k, k < 40 → 0 ≤ mI g k 1 ∧ mI g k 1 < 64) (hh : h < 64) : zMet l yX7_leafSize wsX7_leafSize ({ frames := 2, cells := 0, slots := 0, locals := 46 } : Room) D ct [.ref h0, zi ((h : Nat) : Int)] [zO h0 6 [zi th, .ref aS, zi ((sv : Nat) : Int), .ref aF, .ref aX, zi ((ln : Nat) : Int), zi ((ta : Nat) : Int), zi sg, zi ((f1 : Nat) : Int), zi ((l1 : Nat) : Int), zi ((f2 : Nat) : Int), zi ((l2 : Nat) : Int)], zAI ct aS 3888 g, zAZ ct aF 2 fz, zAI ct aX 80 (zN tx)] (fun _ : Unit => True) (fun _ => some (zi (((bgF g h (dpF g h 6 0) cnt : Nat) : Int)))) (fun _ => [zO h0 6 [zi 0, .ref aS, zi ((sv : Nat) : Int), .ref aF, .ref aX, zi ((ln : Nat) : Int), zi ((ta : Nat) : Int), zi sg, zi ((f1 : Nat) : Int), zi ((l1 : Nat) : Int), zi ((f2 : Nat) : Int), zi ((l2 : Nat) : Int)], zAI ct aS 3888 g, zAZ ct aF 2 fz, zAI ct aX 80 (zN tx)]) 0 0 := by
  refine zMet_i (cc := cX7_leafSize) (maxL := 2) (r := fun _ => ((bgF g h (dpF g h 6 0) cnt : Nat) : Int)) (by decide) rfl (Nat.le_of_ble_eq_true rfl) ?_
  intro p e s m below meth c A Q Z hnm hR
  refine z_eqs _ [(0, .ref h0), (1, zi ((h : Nat) : Int))] _ rfl rfl rfl ?_
  refine z_aload_n Z dX7_leafSize_0 0 rfl ?_
  refine z_iload_n Z dX7_leafSize_1 1 rfl ?_
  refine z_callSu (rest := [.ref h0]) Z dX7_leafSize_2 (zc_X7_isHash l D ct (((h : Nat) : Int)) (by first | assumption | omega)) (va_cwS 1 Z.1.2.2.2.2 gX7_leafSize_X7_isHash rfl rfl rfl (by decide +kernel) ⟨Nat.le_of_ble_eq_true rfl, Nat.le_of_ble_eq_true rfl⟩) rfl (Nat.le_of_ble_eq_true rfl) ⟨Nat.le_of_ble_eq_true rfl, Nat.le_of_ble_eq_true rfl⟩ [false, false, false, false] [zO h0 6 [zi th, .ref aS, zi ((sv : Nat) : Int), .ref aF, .ref aX, zi ((ln : Nat) : Int), zi ((ta : Nat) : Int), zi sg, zi ((f1 : Nat) : Int), zi ((l1 : Nat) : Int), zi ((f2 : Nat) : Int), zi ((l2 : Nat) : Int)], zAI ct aS 3888 g, zAZ ct aF 2 fz, zAI ct aX 80 (zN tx)] [zi (zb (decide (0 ≤ ((h : Nat) : Int) ∧ ((h : Nat) : Int) ≤ 63))), .ref h0] rfl rfl rfl rfl ?_
  refine z_ifb_eq Z 12 dX7_leafSize_5 (by decide) (fun h5 => ?_) (fun h5 => ?_)
  · have h5 := of_decide_eq_false h5
    exfalso; first | contradiction | omega
  · have h5 := of_decide_eq_true h5
    refine z_iconst (v := 0) Z dX7_leafSize_8 rfl ?_
    refine z_goto Z 13 dX7_leafSize_9 (by decide) ?_
    refine z_callVu (rest := []) Z dX7_leafSize_13 6 0 _ _ rfl rfl rfl (zc_X7_holds l D ct (h0) (aS) (aF) (aX) (th) (sg) (sv) (ln) (ta) (f1) (l1) (f2) (l2) (0) (by first | assumption | omega)) (cwV 1 Z.1.2.2.2.2 gX7_leafSize_X7_holds rfl rfl rfl (by decide +kernel) ⟨Nat.le_of_ble_eq_true rfl, Nat.le_of_ble_eq_true rfl⟩) rfl (Nat.le_of_ble_eq_true rfl) ⟨Nat.le_of_ble_eq_true rfl, Nat.le_of_ble_eq_true rfl⟩ [true, false, false, false] [zO h0 6 [zi 0, .ref aS, zi ((sv : Nat) : Int), .ref aF, .ref aX, zi ((ln : Nat) : Int), zi ((ta : Nat) : Int), zi sg, zi ((f1 : Nat) : Int), zi ((l1 : Nat) : Int), zi ((f2 : Nat) : Int), zi ((l2 : Nat) : Int)], zAI ct aS 3888 g, zAZ ct aF 2 fz, zAI ct aX 80 (zN tx)] [zi (zb (decide (0 = 0)))] rfl rfl rfl rfl ?_
    refine z_ifb_eq Z 32 dX7_leafSize_16 (by decide) (fun h16 => ?_) (fun h16 => ?_)
    · have h16 := of_decide_eq_false h16
      exfalso; first | contradiction | omega
    · have h16 := of_decide_eq_true h16
      refine z_aload_n Z dX7_leafSize_19 0 rfl ?_
      refine z_iload_n Z dX7_leafSize_20 1 rfl ?_
      refine z_aload_n Z dX7_leafSize_21 0 rfl ?_
      refine z_iload_n Z dX7_leafSize_22 1 rfl ?_
      refine z_callVu (rest := [zi ((h : Nat) : Int), .ref h0]) Z dX7_leafSize_23 6 0 _ _ rfl rfl rfl (zc_X7_depthAt l D ct (h0) (aS) (aF) (aX) (0) (sg) (sv) (ln) (ta) (f1) (l1) (f2) (l2) (g) (h) (by first | assumption | omega) (by first | assumption | omega)) (cwV 1 Z.1.2.2.2.2 gX7_leafSize_X7_depthAt rfl rfl rfl (by decide +kernel) ⟨Nat.le_of_ble_eq_true rfl, Nat.le_of_ble_eq_true rfl⟩) rfl (Nat.le_of_ble_eq_true rfl) ⟨Nat.le_of_ble_eq_true rfl, Nat.le_of_ble_eq_true rfl⟩ [true, true, false, false] [zO h0 6 [zi 0, .ref aS, zi ((sv : Nat) : Int), .ref aF, .ref aX, zi ((ln : Nat) : Int), zi ((ta : Nat) : Int), zi sg, zi ((f1 : Nat) : Int), zi ((l1 : Nat) : Int), zi ((f2 : Nat) : Int), zi ((l2 : Nat) : Int)], zAI ct aS 3888 g, zAZ ct aF 2 fz, zAI ct aX 80 (zN tx)] [zi ((dpF g h 6 0 : Nat) : Int), zi ((h : Nat) : Int), .ref h0] rfl rfl rfl rfl ?_
      have hd9 := dpF_le g h 6 0
      refine z_callVu (rest := []) Z dX7_leafSize_26 6 0 _ _ rfl rfl rfl (zc_X7_beginning l D ct (h0) (aS) (aF) (aX) (0) (sg) (sv) (ln) (ta) (f1) (l1) (f2) (l2) (g) (cnt) (h) (dpF g h 6 0) (by first | assumption | omega) (by first | assumption | omega) (by first | assumption | omega) (by first | assumption | omega) (by first | assumption | omega) (by first | assumption | omega)) (cwV 2 Z.1.2.2.2.2 gX7_leafSize_X7_beginning rfl rfl rfl (by decide +kernel) ⟨Nat.le_of_ble_eq_true rfl, Nat.le_of_ble_eq_true rfl⟩) rfl (Nat.le_of_ble_eq_true rfl) ⟨Nat.le_of_ble_eq_true rfl, Nat.le_of_ble_eq_true rfl⟩ [true, true, false, false] [zO h0 6 [zi 0, .ref aS, zi ((sv : Nat) : Int), .ref aF, .ref aX, zi ((ln : Nat) : Int), zi ((ta : Nat) : Int), zi sg, zi ((f1 : Nat) : Int), zi ((l1 : Nat) : Int), zi ((f2 : Nat) : Int), zi ((l2 : Nat) : Int)], zAI ct aS 3888 g, zAZ ct aF 2 fz, zAI ct aX 80 (zN tx)] [zi ((bgF g h (dpF g h 6 0) cnt : Nat) : Int)] rfl rfl rfl rfl ?_
      refine z_goto Z 33 dX7_leafSize_29 (by decide) ?_
      refine z_eqs [zO h0 6 [zi 0, .ref aS, zi ((sv : Nat) : Int), .ref aF, .ref aX, zi ((ln : Nat) : Int), zi ((ta : Nat) : Int), zi sg, zi ((f1 : Nat) : Int), zi ((l1 : Nat) : Int), zi ((f2 : Nat) : Int), zi ((l2 : Nat) : Int)], zAI ct aS 3888 g, zAZ ct aF 2 fz, zAI ct aX 80 (zN tx)] _ [zi ((bgF g h (dpF g h 6 0) cnt : Nat) : Int)] (rfl) rfl (rfl) ?_
      exact hR _ _ () trivial dX7_leafSize_33
theorem zin_X7_leaves_X7 : ∀ w ∈ wsX70, w ∈ wsX7_leaves := by decide +kernel
theorem zlk_X7_leaves_20 : Cond.fieldLink RX7 20 "HashedDirectoryModel" "thrown" "I" ∈ wsX7_leaves := by decide +kernel
set_option maxHeartbeats 4000000 in
set_option maxRecDepth 100000 in
theorem zc_X7_leaves_0 (l : Launch) (D : va_G) (ct : zCT) (h0 : Nat) (aS : Nat) (aF : Nat) (aX : Nat) (th : Int) (sg : Int) (sv : Nat) (ln : Nat) (ta : Nat) (f1 : Nat) (l1 : Nat) (f2 : Nat) (l2 : Nat) (g : Nat → Int) (fz : Nat → Int) (tx : Nat → Nat) (cnt : Nat) (hcn : g 0 = ((cnt : Nat) : Int)) (hc : cnt ≤ 40) (hg : ∀ k, k < 432 → -2 ≤ g k ∧ g k < 70000) : zMet l yX7_leaves wsX7_leaves ({ frames := 1, cells := 0, slots := 0, locals := 20 } : Room) D ct [.ref h0] [zO h0 6 [zi th, .ref aS, zi ((sv : Nat) : Int), .ref aF, .ref aX, zi ((ln : Nat) : Int), zi ((ta : Nat) : Int), zi sg, zi ((f1 : Nat) : Int), zi ((l1 : Nat) : Int), zi ((f2 : Nat) : Int), zi ((l2 : Nat) : Int)], zAI ct aS 3888 g, zAZ ct aF 2 fz, zAI ct aX 80 (zN tx)] (fun _ : Unit => True) (fun _ => some (zi ((1 + g 2 - g 3)))) (fun _ => [zO h0 6 [zi 0, .ref aS, zi ((sv : Nat) : Int), .ref aF, .ref aX, zi ((ln : Nat) : Int), zi ((ta : Nat) : Int), zi sg, zi ((f1 : Nat) : Int), zi ((l1 : Nat) : Int), zi ((f2 : Nat) : Int), zi ((l2 : Nat) : Int)], zAI ct aS 3888 g, zAZ ct aF 2 fz, zAI ct aX 80 (zN tx)]) 0 0 := by
  refine zMet_i (cc := cX7_leaves) (maxL := 1) (r := fun _ => (1 + g 2 - g 3)) (by decide) rfl (Nat.le_of_ble_eq_true rfl) ?_
  intro p e s m below meth c A Q Z hnm hR
  refine z_eqs _ [(0, .ref h0)] _ rfl rfl rfl ?_
  refine z_aload_n Z dX7_leaves_0 0 rfl ?_
  refine z_iconst (v := 0) Z dX7_leaves_1 rfl ?_
  refine z_put (ty := .int) Z dX7_leaves_2 zin_X7_leaves_X7 tyX7 tyX7_ok nmX7 0 0 [zO h0 6 [zi 0, .ref aS, zi ((sv : Nat) : Int), .ref aF, .ref aX, zi ((ln : Nat) : Int), zi ((ta : Nat) : Int), zi sg, zi ((f1 : Nat) : Int), zi ((l1 : Nat) : Int), zi ((f2 : Nat) : Int), zi ((l2 : Nat) : Int)], zAI ct aS 3888 g, zAZ ct aF 2 fz, zAI ct aX 80 (zN tx)] rfl rfl (by decide) zlk_X7_leaves_20 rfl (by decide +kernel) rfl rfl (Nat.le_of_ble_eq_true rfl) rfl ?_
  refine z_aload_n Z dX7_leaves_5 0 rfl ?_
  refine z_callVu (rest := []) Z dX7_leaves_6 6 0 _ _ rfl rfl rfl (zc_X7_leavesNow l D ct (h0) (aS) (aF) (aX) (0) (sg) (sv) (ln) (ta) (f1) (l1) (f2) (l2) (g)) (cwV 0 Z.1.2.2.2.2 gX7_leaves_X7_leavesNow rfl rfl rfl (by decide +kernel) ⟨Nat.le_of_ble_eq_true rfl, Nat.le_of_ble_eq_true rfl⟩) rfl (Nat.le_of_ble_eq_true rfl) ⟨Nat.le_of_ble_eq_true rfl, Nat.le_of_ble_eq_true rfl⟩ [true, true, false, false] [zO h0 6 [zi 0, .ref aS, zi ((sv : Nat) : Int), .ref aF, .ref aX, zi ((ln : Nat) : Int), zi ((ta : Nat) : Int), zi sg, zi ((f1 : Nat) : Int), zi ((l1 : Nat) : Int), zi ((f2 : Nat) : Int), zi ((l2 : Nat) : Int)], zAI ct aS 3888 g, zAZ ct aF 2 fz, zAI ct aX 80 (zN tx)] [zi (1 + g 2 - g 3)] rfl rfl rfl rfl ?_
  refine z_eqs [zO h0 6 [zi 0, .ref aS, zi ((sv : Nat) : Int), .ref aF, .ref aX, zi ((ln : Nat) : Int), zi ((ta : Nat) : Int), zi sg, zi ((f1 : Nat) : Int), zi ((l1 : Nat) : Int), zi ((f2 : Nat) : Int), zi ((l2 : Nat) : Int)], zAI ct aS 3888 g, zAZ ct aF 2 fz, zAI ct aX 80 (zN tx)] _ [zi (1 + g 2 - g 3)] (rfl) rfl (rfl) ?_
  exact hR _ _ () trivial dX7_leaves_9
theorem zin_X7_splits_X7 : ∀ w ∈ wsX70, w ∈ wsX7_splits := by decide +kernel
theorem zlk_X7_splits_20 : Cond.fieldLink RX7 20 "HashedDirectoryModel" "thrown" "I" ∈ wsX7_splits := by decide +kernel
theorem zlk_X7_splits_7 : Cond.fieldLink RX7 7 "HashedDirectoryModel" "s" "[I" ∈ wsX7_splits := by decide +kernel
set_option maxHeartbeats 4000000 in
set_option maxRecDepth 100000 in
theorem zc_X7_splits_0 (l : Launch) (D : va_G) (ct : zCT) (h0 : Nat) (aS : Nat) (aF : Nat) (aX : Nat) (th : Int) (sg : Int) (sv : Nat) (ln : Nat) (ta : Nat) (f1 : Nat) (l1 : Nat) (f2 : Nat) (l2 : Nat) (g : Nat → Int) (fz : Nat → Int) (tx : Nat → Nat) (cnt : Nat) (hcn : g 0 = ((cnt : Nat) : Int)) (hc : cnt ≤ 40) (hg : ∀ k, k < 432 → -2 ≤ g k ∧ g k < 70000) : zMet l yX7_splits wsX7_splits ({ frames := 0, cells := 0, slots := 0, locals := 0 } : Room) D ct [.ref h0] [zO h0 6 [zi th, .ref aS, zi ((sv : Nat) : Int), .ref aF, .ref aX, zi ((ln : Nat) : Int), zi ((ta : Nat) : Int), zi sg, zi ((f1 : Nat) : Int), zi ((l1 : Nat) : Int), zi ((f2 : Nat) : Int), zi ((l2 : Nat) : Int)], zAI ct aS 3888 g, zAZ ct aF 2 fz, zAI ct aX 80 (zN tx)] (fun _ : Unit => True) (fun _ => some (zi ((g 2)))) (fun _ => [zO h0 6 [zi 0, .ref aS, zi ((sv : Nat) : Int), .ref aF, .ref aX, zi ((ln : Nat) : Int), zi ((ta : Nat) : Int), zi sg, zi ((f1 : Nat) : Int), zi ((l1 : Nat) : Int), zi ((f2 : Nat) : Int), zi ((l2 : Nat) : Int)], zAI ct aS 3888 g, zAZ ct aF 2 fz, zAI ct aX 80 (zN tx)]) 0 0 := by
  refine zMet_i (cc := cX7_splits) (maxL := 1) (r := fun _ => (g 2)) (by decide) rfl (Nat.le_of_ble_eq_true rfl) ?_
  intro p e s m below meth c A Q Z hnm hR
  refine z_eqs _ [(0, .ref h0)] _ rfl rfl rfl ?_
  refine z_aload_n Z dX7_splits_0 0 rfl ?_
  refine z_iconst (v := 0) Z dX7_splits_1 rfl ?_
  refine z_put (ty := .int) Z dX7_splits_2 zin_X7_splits_X7 tyX7 tyX7_ok nmX7 0 0 [zO h0 6 [zi 0, .ref aS, zi ((sv : Nat) : Int), .ref aF, .ref aX, zi ((ln : Nat) : Int), zi ((ta : Nat) : Int), zi sg, zi ((f1 : Nat) : Int), zi ((l1 : Nat) : Int), zi ((f2 : Nat) : Int), zi ((l2 : Nat) : Int)], zAI ct aS 3888 g, zAZ ct aF 2 fz, zAI ct aX 80 (zN tx)] rfl rfl (by decide) zlk_X7_splits_20 rfl (by decide +kernel) rfl rfl (Nat.le_of_ble_eq_true rfl) rfl ?_
  refine z_aload_n Z dX7_splits_5 0 rfl ?_
  refine z_get Z dX7_splits_6 zin_X7_splits_X7 0 1 rfl rfl (by decide) zlk_X7_splits_7 rfl ?_
  refine z_iconst (v := 2) Z dX7_splits_9 rfl ?_
  refine z_iald Z dX7_splits_10 1 (2) rfl (by omega) ⟨by omega, by omega⟩ ?_
  have he1 := hg (2) (by omega)
  refine z_eqs [zO h0 6 [zi 0, .ref aS, zi ((sv : Nat) : Int), .ref aF, .ref aX, zi ((ln : Nat) : Int), zi ((ta : Nat) : Int), zi sg, zi ((f1 : Nat) : Int), zi ((l1 : Nat) : Int), zi ((f2 : Nat) : Int), zi ((l2 : Nat) : Int)], zAI ct aS 3888 g, zAZ ct aF 2 fz, zAI ct aX 80 (zN tx)] _ [zi (g 2)] (rfl) rfl (rfl) ?_
  exact hR _ _ () trivial dX7_splits_11
theorem zin_X7_merges_X7 : ∀ w ∈ wsX70, w ∈ wsX7_merges := by decide +kernel
theorem zlk_X7_merges_20 : Cond.fieldLink RX7 20 "HashedDirectoryModel" "thrown" "I" ∈ wsX7_merges := by decide +kernel
theorem zlk_X7_merges_7 : Cond.fieldLink RX7 7 "HashedDirectoryModel" "s" "[I" ∈ wsX7_merges := by decide +kernel
set_option maxHeartbeats 4000000 in
set_option maxRecDepth 100000 in
theorem zc_X7_merges_0 (l : Launch) (D : va_G) (ct : zCT) (h0 : Nat) (aS : Nat) (aF : Nat) (aX : Nat) (th : Int) (sg : Int) (sv : Nat) (ln : Nat) (ta : Nat) (f1 : Nat) (l1 : Nat) (f2 : Nat) (l2 : Nat) (g : Nat → Int) (fz : Nat → Int) (tx : Nat → Nat) (cnt : Nat) (hcn : g 0 = ((cnt : Nat) : Int)) (hc : cnt ≤ 40) (hg : ∀ k, k < 432 → -2 ≤ g k ∧ g k < 70000) : zMet l yX7_merges wsX7_merges ({ frames := 0, cells := 0, slots := 0, locals := 0 } : Room) D ct [.ref h0] [zO h0 6 [zi th, .ref aS, zi ((sv : Nat) : Int), .ref aF, .ref aX, zi ((ln : Nat) : Int), zi ((ta : Nat) : Int), zi sg, zi ((f1 : Nat) : Int), zi ((l1 : Nat) : Int), zi ((f2 : Nat) : Int), zi ((l2 : Nat) : Int)], zAI ct aS 3888 g, zAZ ct aF 2 fz, zAI ct aX 80 (zN tx)] (fun _ : Unit => True) (fun _ => some (zi ((g 3)))) (fun _ => [zO h0 6 [zi 0, .ref aS, zi ((sv : Nat) : Int), .ref aF, .ref aX, zi ((ln : Nat) : Int), zi ((ta : Nat) : Int), zi sg, zi ((f1 : Nat) : Int), zi ((l1 : Nat) : Int), zi ((f2 : Nat) : Int), zi ((l2 : Nat) : Int)], zAI ct aS 3888 g, zAZ ct aF 2 fz, zAI ct aX 80 (zN tx)]) 0 0 := by
  refine zMet_i (cc := cX7_merges) (maxL := 1) (r := fun _ => (g 3)) (by decide) rfl (Nat.le_of_ble_eq_true rfl) ?_
  intro p e s m below meth c A Q Z hnm hR
  refine z_eqs _ [(0, .ref h0)] _ rfl rfl rfl ?_
  refine z_aload_n Z dX7_merges_0 0 rfl ?_
  refine z_iconst (v := 0) Z dX7_merges_1 rfl ?_
  refine z_put (ty := .int) Z dX7_merges_2 zin_X7_merges_X7 tyX7 tyX7_ok nmX7 0 0 [zO h0 6 [zi 0, .ref aS, zi ((sv : Nat) : Int), .ref aF, .ref aX, zi ((ln : Nat) : Int), zi ((ta : Nat) : Int), zi sg, zi ((f1 : Nat) : Int), zi ((l1 : Nat) : Int), zi ((f2 : Nat) : Int), zi ((l2 : Nat) : Int)], zAI ct aS 3888 g, zAZ ct aF 2 fz, zAI ct aX 80 (zN tx)] rfl rfl (by decide) zlk_X7_merges_20 rfl (by decide +kernel) rfl rfl (Nat.le_of_ble_eq_true rfl) rfl ?_
  refine z_aload_n Z dX7_merges_5 0 rfl ?_
  refine z_get Z dX7_merges_6 zin_X7_merges_X7 0 1 rfl rfl (by decide) zlk_X7_merges_7 rfl ?_
  refine z_iconst (v := 3) Z dX7_merges_9 rfl ?_
  refine z_iald Z dX7_merges_10 1 (3) rfl (by omega) ⟨by omega, by omega⟩ ?_
  have he1 := hg (3) (by omega)
  refine z_eqs [zO h0 6 [zi 0, .ref aS, zi ((sv : Nat) : Int), .ref aF, .ref aX, zi ((ln : Nat) : Int), zi ((ta : Nat) : Int), zi sg, zi ((f1 : Nat) : Int), zi ((l1 : Nat) : Int), zi ((f2 : Nat) : Int), zi ((l2 : Nat) : Int)], zAI ct aS 3888 g, zAZ ct aF 2 fz, zAI ct aX 80 (zN tx)] _ [zi (g 3)] (rfl) rfl (rfl) ?_
  exact hR _ _ () trivial dX7_merges_11
set_option maxHeartbeats 4000000 in
set_option maxRecDepth 100000 in
theorem zc_X7_leavesIfAdded_1 (l : Launch) (D : va_G) (ct : zCT) (h0 : Nat) (aS : Nat) (aF : Nat) (aX : Nat) (th : Int) (sg : Int) (sv : Nat) (ln : Nat) (ta : Nat) (f1 : Nat) (l1 : Nat) (f2 : Nat) (l2 : Nat) (g : Nat → Int) (fz : Nat → Int) (tx : Nat → Nat) (cnt : Nat) (hcn : g 0 = ((cnt : Nat) : Int)) (hc : cnt ≤ 40) (hg : ∀ k, k < 432 → -2 ≤ g k ∧ g k < 70000) (hhs : ∀ k, k < 40 → 0 ≤ mI g k 1 ∧ mI g k 1 < 64) (ht : ∀ j, j < 80 → tx j < 128) (hln : ln ≤ 80) (hsv : sv ≤ 6) (h2 : 0 ≤ g 2 ∧ g 2 < 50000) (h3 : 0 ≤ g 3 ∧ g 3 < 50000) (h1 : 0 ≤ g 1 ∧ g 1 < 2000) (hn : ¬ ((1 ≤ ln ∧ ln ≤ 6) ∧ ∀ r, r < ln → 97 ≤ tx r ∧ tx r ≤ 122)) : zMet l yX7_leavesIfAdded wsX7_leavesIfAdded ({ frames := 2, cells := 0, slots := 0, locals := 44 } : Room) D ct [.ref h0] [zO h0 6 [zi th, .ref aS, zi ((sv : Nat) : Int), .ref aF, .ref aX, zi ((ln : Nat) : Int), zi ((ta : Nat) : Int), zi sg, zi ((f1 : Nat) : Int), zi ((l1 : Nat) : Int), zi ((f2 : Nat) : Int), zi ((l2 : Nat) : Int)], zAI ct aS 3888 g, zAZ ct aF 2 fz, zAI ct aX 80 (zN tx)] (fun _ : Unit => True) (fun _ => some (zi (0))) (fun _ => [zO h0 6 [zi 1, .ref aS, zi ((sv : Nat) : Int), .ref aF, .ref aX, zi ((ln : Nat) : Int), zi ((ta : Nat) : Int), zi sg, zi ((f1 : Nat) : Int), zi ((l1 : Nat) : Int), zi ((f2 : Nat) : Int), zi ((l2 : Nat) : Int)], zAI ct aS 3888 g, zAZ ct aF 2 fz, zAI ct aX 80 (zN tx)]) 0 0 := by
  refine zMet_i (cc := cX7_leavesIfAdded) (maxL := 5) (r := fun _ => 0) (by decide) rfl (Nat.le_of_ble_eq_true rfl) ?_
  intro p e s m below meth c A Q Z hnm hR
  refine z_eqs _ [(0, .ref h0)] _ rfl rfl rfl ?_
  refine z_aload_n Z dX7_leavesIfAdded_0 0 rfl ?_
  refine z_callVu (rest := []) Z dX7_leavesIfAdded_1 6 0 _ _ rfl rfl rfl (zc_X7_isName l D ct (h0) (aS) (aF) (aX) (th) (sg) (sv) (ln) (ta) (f1) (l1) (f2) (l2) (tx) (by first | assumption | omega) (by first | assumption | omega)) (cwV 0 Z.1.2.2.2.2 gX7_leavesIfAdded_X7_isName rfl rfl rfl (by decide +kernel) ⟨Nat.le_of_ble_eq_true rfl, Nat.le_of_ble_eq_true rfl⟩) rfl (Nat.le_of_ble_eq_true rfl) ⟨Nat.le_of_ble_eq_true rfl, Nat.le_of_ble_eq_true rfl⟩ [true, false, false, true] [zO h0 6 [zi th, .ref aS, zi ((sv : Nat) : Int), .ref aF, .ref aX, zi ((ln : Nat) : Int), zi ((ta : Nat) : Int), zi sg, zi ((f1 : Nat) : Int), zi ((l1 : Nat) : Int), zi ((f2 : Nat) : Int), zi ((l2 : Nat) : Int)], zAI ct aS 3888 g, zAZ ct aF 2 fz, zAI ct aX 80 (zN tx)] [zi (zb (decide ((1 ≤ ln ∧ ln ≤ 6) ∧ ∀ r, r < ln → 97 ≤ tx r ∧ tx r ≤ 122)))] rfl rfl rfl rfl ?_
  refine z_istore_n Z dX7_leavesIfAdded_4 [(1, zi (zb (decide ((1 ≤ ln ∧ ln ≤ 6) ∧ ∀ r, r < ln → 97 ≤ tx r ∧ tx r ≤ 122)))), (0, .ref h0)] (by decide) rfl ?_
  refine z_aload_n Z dX7_leavesIfAdded_5 1 rfl ?_
  refine z_iload_n Z dX7_leavesIfAdded_6 0 rfl ?_
  refine z_ifb_ne Z 14 dX7_leavesIfAdded_7 (by decide) (fun h7 => ?_) (fun h7 => ?_)
  · have h7 := of_decide_eq_true h7
    exfalso; first | contradiction | omega
  · have h7 := of_decide_eq_false h7
    refine z_iconst (v := 1) Z dX7_leavesIfAdded_10 rfl ?_
    refine z_goto Z 42 dX7_leavesIfAdded_11 (by decide) ?_
    refine z_callVu (rest := []) Z dX7_leavesIfAdded_42 6 0 _ _ rfl rfl rfl (zc_X7_holds l D ct (h0) (aS) (aF) (aX) (th) (sg) (sv) (ln) (ta) (f1) (l1) (f2) (l2) (1) (by first | assumption | omega)) (cwV 1 Z.1.2.2.2.2 gX7_leavesIfAdded_X7_holds rfl rfl rfl (by decide +kernel) ⟨Nat.le_of_ble_eq_true rfl, Nat.le_of_ble_eq_true rfl⟩) rfl (Nat.le_of_ble_eq_true rfl) ⟨Nat.le_of_ble_eq_true rfl, Nat.le_of_ble_eq_true rfl⟩ [true, false, false, false] [zO h0 6 [zi 1, .ref aS, zi ((sv : Nat) : Int), .ref aF, .ref aX, zi ((ln : Nat) : Int), zi ((ta : Nat) : Int), zi sg, zi ((f1 : Nat) : Int), zi ((l1 : Nat) : Int), zi ((f2 : Nat) : Int), zi ((l2 : Nat) : Int)], zAI ct aS 3888 g, zAZ ct aF 2 fz, zAI ct aX 80 (zN tx)] [zi (zb (decide (1 = 0)))] rfl rfl rfl rfl ?_
    refine z_ifb_ne Z 50 dX7_leavesIfAdded_45 (by decide) (fun h45 => ?_) (fun h45 => ?_)
    · have h45 := of_decide_eq_true h45
      exfalso; first | contradiction | omega
    · have h45 := of_decide_eq_false h45
      refine z_iconst (v := 0) Z dX7_leavesIfAdded_48 rfl ?_
      refine z_eqs [zO h0 6 [zi 1, .ref aS, zi ((sv : Nat) : Int), .ref aF, .ref aX, zi ((ln : Nat) : Int), zi ((ta : Nat) : Int), zi sg, zi ((f1 : Nat) : Int), zi ((l1 : Nat) : Int), zi ((f2 : Nat) : Int), zi ((l2 : Nat) : Int)], zAI ct aS 3888 g, zAZ ct aF 2 fz, zAI ct aX 80 (zN tx)] _ [zi 0] (rfl) rfl (rfl) ?_
      exact hR _ _ () trivial dX7_leavesIfAdded_49
theorem zin_X7_leavesIfAdded_X7 : ∀ w ∈ wsX70, w ∈ wsX7_leavesIfAdded := by decide +kernel
theorem zlk_X7_leavesIfAdded_65 : Cond.fieldLink RX7 65 "HashedDirectoryModel" "length" "I" ∈ wsX7_leavesIfAdded := by decide +kernel
theorem zlk_X7_leavesIfAdded_7 : Cond.fieldLink RX7 7 "HashedDirectoryModel" "s" "[I" ∈ wsX7_leavesIfAdded := by decide +kernel
set_option maxHeartbeats 4000000 in
set_option maxRecDepth 100000 in
theorem zc_X7_leavesIfAdded_2 (l : Launch) (D : va_G) (ct : zCT) (h0 : Nat) (aS : Nat) (aF : Nat) (aX : Nat) (th : Int) (sg : Int) (sv : Nat) (ln : Nat) (ta : Nat) (f1 : Nat) (l1 : Nat) (f2 : Nat) (l2 : Nat) (g : Nat → Int) (fz : Nat → Int) (tx : Nat → Nat) (cnt : Nat) (hcn : g 0 = ((cnt : Nat) : Int)) (hc : cnt ≤ 40) (hg : ∀ k, k < 432 → -2 ≤ g k ∧ g k < 70000) (hhs : ∀ k, k < 40 → 0 ≤ mI g k 1 ∧ mI g k 1 < 64) (ht : ∀ j, j < 80 → tx j < 128) (hln : ln ≤ 80) (hsv : sv ≤ 6) (h2 : 0 ≤ g 2 ∧ g 2 < 50000) (h3 : 0 ≤ g 3 ∧ g 3 < 50000) (h1 : 0 ≤ g 1 ∧ g 1 < 2000) (hn : (1 ≤ ln ∧ ln ≤ 6) ∧ ∀ r, r < ln → 97 ≤ tx r ∧ tx r ≤ 122) (hcm : ¬ (fo2 (mN g tx 0 ln) cnt = -2 ∧ g 1 < 1000) ∨ cnt = 40) : zMet l yX7_leavesIfAdded wsX7_leavesIfAdded ({ frames := 3, cells := 0, slots := 0, locals := 69 } : Room) D ct [.ref h0] [zO h0 6 [zi th, .ref aS, zi ((sv : Nat) : Int), .ref aF, .ref aX, zi ((ln : Nat) : Int), zi ((ta : Nat) : Int), zi sg, zi ((f1 : Nat) : Int), zi ((l1 : Nat) : Int), zi ((f2 : Nat) : Int), zi ((l2 : Nat) : Int)], zAI ct aS 3888 g, zAZ ct aF 2 fz, zAI ct aX 80 (zN tx)] (fun _ : Unit => True) (fun _ => some (zi (0))) (fun _ => [zO h0 6 [zi 2, .ref aS, zi ((sv : Nat) : Int), .ref aF, .ref aX, zi ((ln : Nat) : Int), zi ((ta : Nat) : Int), zi sg, zi ((f1 : Nat) : Int), zi ((l1 : Nat) : Int), zi ((f2 : Nat) : Int), zi ((l2 : Nat) : Int)], zAI ct aS 3888 g, zAZ ct aF 2 fz, zAI ct aX 80 (zN tx)]) 0 0 := by
  refine zMet_i (cc := cX7_leavesIfAdded) (maxL := 5) (r := fun _ => 0) (by decide) rfl (Nat.le_of_ble_eq_true rfl) ?_
  intro p e s m below meth c A Q Z hnm hR
  refine z_eqs _ [(0, .ref h0)] _ rfl rfl rfl ?_
  have hn1 := hn.1
  have hn2 := hn.2
  refine z_aload_n Z dX7_leavesIfAdded_0 0 rfl ?_
  refine z_callVu (rest := []) Z dX7_leavesIfAdded_1 6 0 _ _ rfl rfl rfl (zc_X7_isName l D ct (h0) (aS) (aF) (aX) (th) (sg) (sv) (ln) (ta) (f1) (l1) (f2) (l2) (tx) (by first | assumption | omega) (by first | assumption | omega)) (cwV 0 Z.1.2.2.2.2 gX7_leavesIfAdded_X7_isName rfl rfl rfl (by decide +kernel) ⟨Nat.le_of_ble_eq_true rfl, Nat.le_of_ble_eq_true rfl⟩) rfl (Nat.le_of_ble_eq_true rfl) ⟨Nat.le_of_ble_eq_true rfl, Nat.le_of_ble_eq_true rfl⟩ [true, false, false, true] [zO h0 6 [zi th, .ref aS, zi ((sv : Nat) : Int), .ref aF, .ref aX, zi ((ln : Nat) : Int), zi ((ta : Nat) : Int), zi sg, zi ((f1 : Nat) : Int), zi ((l1 : Nat) : Int), zi ((f2 : Nat) : Int), zi ((l2 : Nat) : Int)], zAI ct aS 3888 g, zAZ ct aF 2 fz, zAI ct aX 80 (zN tx)] [zi (zb (decide ((1 ≤ ln ∧ ln ≤ 6) ∧ ∀ r, r < ln → 97 ≤ tx r ∧ tx r ≤ 122)))] rfl rfl rfl rfl ?_
  refine z_istore_n Z dX7_leavesIfAdded_4 [(1, zi (zb (decide ((1 ≤ ln ∧ ln ≤ 6) ∧ ∀ r, r < ln → 97 ≤ tx r ∧ tx r ≤ 122)))), (0, .ref h0)] (by decide) rfl ?_
  refine z_aload_n Z dX7_leavesIfAdded_5 1 rfl ?_
  refine z_iload_n Z dX7_leavesIfAdded_6 0 rfl ?_
  refine z_ifb_ne Z 14 dX7_leavesIfAdded_7 (by decide) (fun h7 => ?_) (fun h7 => ?_)
  · have h7 := of_decide_eq_true h7
    refine z_aload_n Z dX7_leavesIfAdded_14 1 rfl ?_
    refine z_iconst (v := 0) Z dX7_leavesIfAdded_15 rfl ?_
    refine z_aload_n Z dX7_leavesIfAdded_16 1 rfl ?_
    refine z_get Z dX7_leavesIfAdded_17 zin_X7_leavesIfAdded_X7 0 5 rfl rfl (by decide) zlk_X7_leavesIfAdded_65 rfl ?_
    refine z_callVu (rest := [.ref h0]) Z dX7_leavesIfAdded_20 6 0 _ _ rfl rfl rfl (zc_X7_canMake l D ct (h0) (aS) (aF) (aX) (th) (sg) (sv) (ln) (ta) (f1) (l1) (f2) (l2) (g) (tx) (cnt) (0) (ln) (by first | assumption | omega) (by first | assumption | omega) (by first | assumption | omega) (by first | assumption | omega) (by first | assumption | omega) (by first | assumption | omega)) (cwV 2 Z.1.2.2.2.2 gX7_leavesIfAdded_X7_canMake rfl rfl rfl (by decide +kernel) ⟨Nat.le_of_ble_eq_true rfl, Nat.le_of_ble_eq_true rfl⟩) rfl (Nat.le_of_ble_eq_true rfl) ⟨Nat.le_of_ble_eq_true rfl, Nat.le_of_ble_eq_true rfl⟩ [true, true, false, true] [zO h0 6 [zi th, .ref aS, zi ((sv : Nat) : Int), .ref aF, .ref aX, zi ((ln : Nat) : Int), zi ((ta : Nat) : Int), zi sg, zi ((f1 : Nat) : Int), zi ((l1 : Nat) : Int), zi ((f2 : Nat) : Int), zi ((l2 : Nat) : Int)], zAI ct aS 3888 g, zAZ ct aF 2 fz, zAI ct aX 80 (zN tx)] [zi (zb (decide (fo2 (mN g tx 0 ln) cnt = -2 ∧ g 1 < 1000))), .ref h0] rfl rfl rfl rfl ?_
    refine z_ifb_eq Z 37 dX7_leavesIfAdded_23 (by decide) (fun h23 => ?_) (fun h23 => ?_)
    · have h23 := of_decide_eq_false h23
      refine z_iconst (v := 2) Z dX7_leavesIfAdded_37 rfl ?_
      refine z_goto Z 42 dX7_leavesIfAdded_38 (by decide) ?_
      refine z_callVu (rest := []) Z dX7_leavesIfAdded_42 6 0 _ _ rfl rfl rfl (zc_X7_holds l D ct (h0) (aS) (aF) (aX) (th) (sg) (sv) (ln) (ta) (f1) (l1) (f2) (l2) (2) (by first | assumption | omega)) (cwV 1 Z.1.2.2.2.2 gX7_leavesIfAdded_X7_holds rfl rfl rfl (by decide +kernel) ⟨Nat.le_of_ble_eq_true rfl, Nat.le_of_ble_eq_true rfl⟩) rfl (Nat.le_of_ble_eq_true rfl) ⟨Nat.le_of_ble_eq_true rfl, Nat.le_of_ble_eq_true rfl⟩ [true, false, false, false] [zO h0 6 [zi 2, .ref aS, zi ((sv : Nat) : Int), .ref aF, .ref aX, zi ((ln : Nat) : Int), zi ((ta : Nat) : Int), zi sg, zi ((f1 : Nat) : Int), zi ((l1 : Nat) : Int), zi ((f2 : Nat) : Int), zi ((l2 : Nat) : Int)], zAI ct aS 3888 g, zAZ ct aF 2 fz, zAI ct aX 80 (zN tx)] [zi (zb (decide (2 = 0)))] rfl rfl rfl rfl ?_
      refine z_ifb_ne Z 50 dX7_leavesIfAdded_45 (by decide) (fun h45 => ?_) (fun h45 => ?_)
      · have h45 := of_decide_eq_true h45
        exfalso; first | contradiction | omega
      · have h45 := of_decide_eq_false h45
        refine z_iconst (v := 0) Z dX7_leavesIfAdded_48 rfl ?_
        refine z_eqs [zO h0 6 [zi 2, .ref aS, zi ((sv : Nat) : Int), .ref aF, .ref aX, zi ((ln : Nat) : Int), zi ((ta : Nat) : Int), zi sg, zi ((f1 : Nat) : Int), zi ((l1 : Nat) : Int), zi ((f2 : Nat) : Int), zi ((l2 : Nat) : Int)], zAI ct aS 3888 g, zAZ ct aF 2 fz, zAI ct aX 80 (zN tx)] _ [zi 0] (rfl) rfl (rfl) ?_
        exact hR _ _ () trivial dX7_leavesIfAdded_49
    · have h23 := of_decide_eq_true h23
      refine z_aload_n Z dX7_leavesIfAdded_26 1 rfl ?_
      refine z_get Z dX7_leavesIfAdded_27 zin_X7_leavesIfAdded_X7 0 1 rfl rfl (by decide) zlk_X7_leavesIfAdded_7 rfl ?_
      refine z_iconst (v := 0) Z dX7_leavesIfAdded_30 rfl ?_
      refine z_iald Z dX7_leavesIfAdded_31 1 (0) rfl (by omega) ⟨by omega, by omega⟩ ?_
      have he1 := hg (0) (by omega)
      refine z_bipush (v := 40) Z dX7_leavesIfAdded_32 (by decide +kernel) ?_
      refine z_icmp_ne Z 41 dX7_leavesIfAdded_34 (by decide) (by omega) (by omega) (fun h34 => ?_) (fun h34 => ?_)
      · exfalso; rcases hcm with h9 | h9; exact h9 h23; omega
      · refine z_iconst (v := 2) Z dX7_leavesIfAdded_37 rfl ?_
        refine z_goto Z 42 dX7_leavesIfAdded_38 (by decide) ?_
        refine z_callVu (rest := []) Z dX7_leavesIfAdded_42 6 0 _ _ rfl rfl rfl (zc_X7_holds l D ct (h0) (aS) (aF) (aX) (th) (sg) (sv) (ln) (ta) (f1) (l1) (f2) (l2) (2) (by first | assumption | omega)) (cwV 1 Z.1.2.2.2.2 gX7_leavesIfAdded_X7_holds rfl rfl rfl (by decide +kernel) ⟨Nat.le_of_ble_eq_true rfl, Nat.le_of_ble_eq_true rfl⟩) rfl (Nat.le_of_ble_eq_true rfl) ⟨Nat.le_of_ble_eq_true rfl, Nat.le_of_ble_eq_true rfl⟩ [true, false, false, false] [zO h0 6 [zi 2, .ref aS, zi ((sv : Nat) : Int), .ref aF, .ref aX, zi ((ln : Nat) : Int), zi ((ta : Nat) : Int), zi sg, zi ((f1 : Nat) : Int), zi ((l1 : Nat) : Int), zi ((f2 : Nat) : Int), zi ((l2 : Nat) : Int)], zAI ct aS 3888 g, zAZ ct aF 2 fz, zAI ct aX 80 (zN tx)] [zi (zb (decide (2 = 0)))] rfl rfl rfl rfl ?_
        refine z_ifb_ne Z 50 dX7_leavesIfAdded_45 (by decide) (fun h45 => ?_) (fun h45 => ?_)
        · have h45 := of_decide_eq_true h45
          exfalso; first | contradiction | omega
        · have h45 := of_decide_eq_false h45
          refine z_iconst (v := 0) Z dX7_leavesIfAdded_48 rfl ?_
          refine z_eqs [zO h0 6 [zi 2, .ref aS, zi ((sv : Nat) : Int), .ref aF, .ref aX, zi ((ln : Nat) : Int), zi ((ta : Nat) : Int), zi sg, zi ((f1 : Nat) : Int), zi ((l1 : Nat) : Int), zi ((f2 : Nat) : Int), zi ((l2 : Nat) : Int)], zAI ct aS 3888 g, zAZ ct aF 2 fz, zAI ct aX 80 (zN tx)] _ [zi 0] (rfl) rfl (rfl) ?_
          exact hR _ _ () trivial dX7_leavesIfAdded_49
  · have h7 := of_decide_eq_false h7
    exfalso; first | contradiction | omega
set_option maxHeartbeats 4000000 in
set_option maxRecDepth 100000 in
theorem zc_X7_leavesIfAdded_0 (l : Launch) (D : va_G) (ct : zCT) (h0 : Nat) (aS : Nat) (aF : Nat) (aX : Nat) (th : Int) (sg : Int) (sv : Nat) (ln : Nat) (ta : Nat) (f1 : Nat) (l1 : Nat) (f2 : Nat) (l2 : Nat) (g : Nat → Int) (fz : Nat → Int) (tx : Nat → Nat) (cnt : Nat) (hcn : g 0 = ((cnt : Nat) : Int)) (hc : cnt ≤ 40) (hg : ∀ k, k < 432 → -2 ≤ g k ∧ g k < 70000) (hhs : ∀ k, k < 40 → 0 ≤ mI g k 1 ∧ mI g k 1 < 64) (ht : ∀ j, j < 80 → tx j < 128) (hln : ln ≤ 80) (hsv : sv ≤ 6) (h2 : 0 ≤ g 2 ∧ g 2 < 50000) (h3 : 0 ≤ g 3 ∧ g 3 < 50000) (h1 : 0 ≤ g 1 ∧ g 1 < 2000) (hn : (1 ≤ ln ∧ ln ≤ 6) ∧ ∀ r, r < ln → 97 ≤ tx r ∧ tx r ≤ 122) (hcm : fo2 (mN g tx 0 ln) cnt = -2 ∧ g 1 < 1000) (hc4 : cnt < 40) : zMet l yX7_leavesIfAdded wsX7_leavesIfAdded ({ frames := 3, cells := 0, slots := 0, locals := 69 } : Room) D ct [.ref h0] [zO h0 6 [zi th, .ref aS, zi ((sv : Nat) : Int), .ref aF, .ref aX, zi ((ln : Nat) : Int), zi ((ta : Nat) : Int), zi sg, zi ((f1 : Nat) : Int), zi ((l1 : Nat) : Int), zi ((f2 : Nat) : Int), zi ((l2 : Nat) : Int)], zAI ct aS 3888 g, zAZ ct aF 2 fz, zAI ct aX 80 (zN tx)] (fun _ : Unit => True) (fun _ => some (zi ((1 + g 2 - g 3 + ((dsF (bgB g (hhF tx 0 ln) cnt) (6 - (dpF g (hhF tx 0 ln) 6 0)) (dpF g (hhF tx 0 ln) 6 0) - (dpF g (hhF tx 0 ln) 6 0) : Nat) : Int))))) (fun _ => [zO h0 6 [zi 0, .ref aS, zi ((sv : Nat) : Int), .ref aF, .ref aX, zi ((ln : Nat) : Int), zi ((ta : Nat) : Int), zi sg, zi ((f1 : Nat) : Int), zi ((l1 : Nat) : Int), zi ((f2 : Nat) : Int), zi ((l2 : Nat) : Int)], zAI ct aS 3888 g, zAZ ct aF 2 fz, zAI ct aX 80 (zN tx)]) 0 0 := by
  refine zMet_i (cc := cX7_leavesIfAdded) (maxL := 5) (r := fun _ => (1 + g 2 - g 3 + ((dsF (bgB g (hhF tx 0 ln) cnt) (6 - (dpF g (hhF tx 0 ln) 6 0)) (dpF g (hhF tx 0 ln) 6 0) - (dpF g (hhF tx 0 ln) 6 0) : Nat) : Int))) (by decide) rfl (Nat.le_of_ble_eq_true rfl) ?_
  intro p e s m below meth c A Q Z hnm hR
  refine z_eqs _ [(0, .ref h0)] _ rfl rfl rfl ?_
  have hn1 := hn.1
  have hn2 := hn.2
  have hl9 := hhF_lt tx 0 ln
  refine z_aload_n Z dX7_leavesIfAdded_0 0 rfl ?_
  refine z_callVu (rest := []) Z dX7_leavesIfAdded_1 6 0 _ _ rfl rfl rfl (zc_X7_isName l D ct (h0) (aS) (aF) (aX) (th) (sg) (sv) (ln) (ta) (f1) (l1) (f2) (l2) (tx) (by first | assumption | omega) (by first | assumption | omega)) (cwV 0 Z.1.2.2.2.2 gX7_leavesIfAdded_X7_isName rfl rfl rfl (by decide +kernel) ⟨Nat.le_of_ble_eq_true rfl, Nat.le_of_ble_eq_true rfl⟩) rfl (Nat.le_of_ble_eq_true rfl) ⟨Nat.le_of_ble_eq_true rfl, Nat.le_of_ble_eq_true rfl⟩ [true, false, false, true] [zO h0 6 [zi th, .ref aS, zi ((sv : Nat) : Int), .ref aF, .ref aX, zi ((ln : Nat) : Int), zi ((ta : Nat) : Int), zi sg, zi ((f1 : Nat) : Int), zi ((l1 : Nat) : Int), zi ((f2 : Nat) : Int), zi ((l2 : Nat) : Int)], zAI ct aS 3888 g, zAZ ct aF 2 fz, zAI ct aX 80 (zN tx)] [zi (zb (decide ((1 ≤ ln ∧ ln ≤ 6) ∧ ∀ r, r < ln → 97 ≤ tx r ∧ tx r ≤ 122)))] rfl rfl rfl rfl ?_
  refine z_istore_n Z dX7_leavesIfAdded_4 [(1, zi (zb (decide ((1 ≤ ln ∧ ln ≤ 6) ∧ ∀ r, r < ln → 97 ≤ tx r ∧ tx r ≤ 122)))), (0, .ref h0)] (by decide) rfl ?_
  refine z_aload_n Z dX7_leavesIfAdded_5 1 rfl ?_
  refine z_iload_n Z dX7_leavesIfAdded_6 0 rfl ?_
  refine z_ifb_ne Z 14 dX7_leavesIfAdded_7 (by decide) (fun h7 => ?_) (fun h7 => ?_)
  · have h7 := of_decide_eq_true h7
    refine z_aload_n Z dX7_leavesIfAdded_14 1 rfl ?_
    refine z_iconst (v := 0) Z dX7_leavesIfAdded_15 rfl ?_
    refine z_aload_n Z dX7_leavesIfAdded_16 1 rfl ?_
    refine z_get Z dX7_leavesIfAdded_17 zin_X7_leavesIfAdded_X7 0 5 rfl rfl (by decide) zlk_X7_leavesIfAdded_65 rfl ?_
    refine z_callVu (rest := [.ref h0]) Z dX7_leavesIfAdded_20 6 0 _ _ rfl rfl rfl (zc_X7_canMake l D ct (h0) (aS) (aF) (aX) (th) (sg) (sv) (ln) (ta) (f1) (l1) (f2) (l2) (g) (tx) (cnt) (0) (ln) (by first | assumption | omega) (by first | assumption | omega) (by first | assumption | omega) (by first | assumption | omega) (by first | assumption | omega) (by first | assumption | omega)) (cwV 2 Z.1.2.2.2.2 gX7_leavesIfAdded_X7_canMake rfl rfl rfl (by decide +kernel) ⟨Nat.le_of_ble_eq_true rfl, Nat.le_of_ble_eq_true rfl⟩) rfl (Nat.le_of_ble_eq_true rfl) ⟨Nat.le_of_ble_eq_true rfl, Nat.le_of_ble_eq_true rfl⟩ [true, true, false, true] [zO h0 6 [zi th, .ref aS, zi ((sv : Nat) : Int), .ref aF, .ref aX, zi ((ln : Nat) : Int), zi ((ta : Nat) : Int), zi sg, zi ((f1 : Nat) : Int), zi ((l1 : Nat) : Int), zi ((f2 : Nat) : Int), zi ((l2 : Nat) : Int)], zAI ct aS 3888 g, zAZ ct aF 2 fz, zAI ct aX 80 (zN tx)] [zi (zb (decide (fo2 (mN g tx 0 ln) cnt = -2 ∧ g 1 < 1000))), .ref h0] rfl rfl rfl rfl ?_
    refine z_ifb_eq Z 37 dX7_leavesIfAdded_23 (by decide) (fun h23 => ?_) (fun h23 => ?_)
    · have h23 := of_decide_eq_false h23
      exfalso; first | contradiction | omega
    · have h23 := of_decide_eq_true h23
      refine z_aload_n Z dX7_leavesIfAdded_26 1 rfl ?_
      refine z_get Z dX7_leavesIfAdded_27 zin_X7_leavesIfAdded_X7 0 1 rfl rfl (by decide) zlk_X7_leavesIfAdded_7 rfl ?_
      refine z_iconst (v := 0) Z dX7_leavesIfAdded_30 rfl ?_
      refine z_iald Z dX7_leavesIfAdded_31 1 (0) rfl (by omega) ⟨by omega, by omega⟩ ?_
      have he1 := hg (0) (by omega)
      refine z_bipush (v := 40) Z dX7_leavesIfAdded_32 (by decide +kernel) ?_
      refine z_icmp_ne Z 41 dX7_leavesIfAdded_34 (by decide) (by omega) (by omega) (fun h34 => ?_) (fun h34 => ?_)
      · refine z_iconst (v := 0) Z dX7_leavesIfAdded_41 rfl ?_
        refine z_callVu (rest := []) Z dX7_leavesIfAdded_42 6 0 _ _ rfl rfl rfl (zc_X7_holds l D ct (h0) (aS) (aF) (aX) (th) (sg) (sv) (ln) (ta) (f1) (l1) (f2) (l2) (0) (by first | assumption | omega)) (cwV 1 Z.1.2.2.2.2 gX7_leavesIfAdded_X7_holds rfl rfl rfl (by decide +kernel) ⟨Nat.le_of_ble_eq_true rfl, Nat.le_of_ble_eq_true rfl⟩) rfl (Nat.le_of_ble_eq_true rfl) ⟨Nat.le_of_ble_eq_true rfl, Nat.le_of_ble_eq_true rfl⟩ [true, false, false, false] [zO h0 6 [zi 0, .ref aS, zi ((sv : Nat) : Int), .ref aF, .ref aX, zi ((ln : Nat) : Int), zi ((ta : Nat) : Int), zi sg, zi ((f1 : Nat) : Int), zi ((l1 : Nat) : Int), zi ((f2 : Nat) : Int), zi ((l2 : Nat) : Int)], zAI ct aS 3888 g, zAZ ct aF 2 fz, zAI ct aX 80 (zN tx)] [zi (zb (decide (0 = 0)))] rfl rfl rfl rfl ?_
        refine z_ifb_ne Z 50 dX7_leavesIfAdded_45 (by decide) (fun h45 => ?_) (fun h45 => ?_)
        · have h45 := of_decide_eq_true h45
          refine z_aload_n Z dX7_leavesIfAdded_50 1 rfl ?_
          refine z_iconst (v := 0) Z dX7_leavesIfAdded_51 rfl ?_
          refine z_aload_n Z dX7_leavesIfAdded_52 1 rfl ?_
          refine z_get Z dX7_leavesIfAdded_53 zin_X7_leavesIfAdded_X7 0 5 rfl rfl (by decide) zlk_X7_leavesIfAdded_65 rfl ?_
          refine z_callVu (rest := []) Z dX7_leavesIfAdded_56 6 0 _ _ rfl rfl rfl (zc_X7_hashOfName l D ct (h0) (aS) (aF) (aX) (0) (sg) (sv) (ln) (ta) (f1) (l1) (f2) (l2) (tx) (0) (ln) (by first | assumption | omega) (by first | assumption | omega) (by first | assumption | omega) (fun j hj => by rw [Nat.zero_add]; exact hn.2 j hj)) (cwV 2 Z.1.2.2.2.2 gX7_leavesIfAdded_X7_hashOfName rfl rfl rfl (by decide +kernel) ⟨Nat.le_of_ble_eq_true rfl, Nat.le_of_ble_eq_true rfl⟩) rfl (Nat.le_of_ble_eq_true rfl) ⟨Nat.le_of_ble_eq_true rfl, Nat.le_of_ble_eq_true rfl⟩ [true, false, false, true] [zO h0 6 [zi 0, .ref aS, zi ((sv : Nat) : Int), .ref aF, .ref aX, zi ((ln : Nat) : Int), zi ((ta : Nat) : Int), zi sg, zi ((f1 : Nat) : Int), zi ((l1 : Nat) : Int), zi ((f2 : Nat) : Int), zi ((l2 : Nat) : Int)], zAI ct aS 3888 g, zAZ ct aF 2 fz, zAI ct aX 80 (zN tx)] [zi ((hhF tx 0 ln : Nat) : Int)] rfl rfl rfl rfl ?_
          refine z_istore_n Z dX7_leavesIfAdded_59 [(2, zi ((hhF tx 0 ln : Nat) : Int)), (1, zi (zb (decide ((1 ≤ ln ∧ ln ≤ 6) ∧ ∀ r, r < ln → 97 ≤ tx r ∧ tx r ≤ 122)))), (0, .ref h0)] (by decide) rfl ?_
          refine z_aload_n Z dX7_leavesIfAdded_60 2 rfl ?_
          refine z_iload_n Z dX7_leavesIfAdded_61 0 rfl ?_
          refine z_callVu (rest := []) Z dX7_leavesIfAdded_62 6 0 _ _ rfl rfl rfl (zc_X7_depthAt l D ct (h0) (aS) (aF) (aX) (0) (sg) (sv) (ln) (ta) (f1) (l1) (f2) (l2) (g) (hhF tx 0 ln) (by first | assumption | omega) (by first | assumption | omega)) (cwV 1 Z.1.2.2.2.2 gX7_leavesIfAdded_X7_depthAt rfl rfl rfl (by decide +kernel) ⟨Nat.le_of_ble_eq_true rfl, Nat.le_of_ble_eq_true rfl⟩) rfl (Nat.le_of_ble_eq_true rfl) ⟨Nat.le_of_ble_eq_true rfl, Nat.le_of_ble_eq_true rfl⟩ [true, true, false, false] [zO h0 6 [zi 0, .ref aS, zi ((sv : Nat) : Int), .ref aF, .ref aX, zi ((ln : Nat) : Int), zi ((ta : Nat) : Int), zi sg, zi ((f1 : Nat) : Int), zi ((l1 : Nat) : Int), zi ((f2 : Nat) : Int), zi ((l2 : Nat) : Int)], zAI ct aS 3888 g, zAZ ct aF 2 fz, zAI ct aX 80 (zN tx)] [zi ((dpF g (hhF tx 0 ln) 6 0 : Nat) : Int)] rfl rfl rfl rfl ?_
          have hd9 := dpF_le g (hhF tx 0 ln) 6 0
          refine z_istore_n Z dX7_leavesIfAdded_65 [(3, zi ((dpF g (hhF tx 0 ln) 6 0 : Nat) : Int)), (2, zi ((hhF tx 0 ln : Nat) : Int)), (1, zi (zb (decide ((1 ≤ ln ∧ ln ≤ 6) ∧ ∀ r, r < ln → 97 ≤ tx r ∧ tx r ≤ 122)))), (0, .ref h0)] (by decide) rfl ?_
          refine z_iconst (v := 0) Z dX7_leavesIfAdded_66 rfl ?_
          refine z_istore Z dX7_leavesIfAdded_67 [(4, zi 0), (3, zi ((dpF g (hhF tx 0 ln) 6 0 : Nat) : Int)), (2, zi ((hhF tx 0 ln : Nat) : Int)), (1, zi (zb (decide ((1 ≤ ln ∧ ln ≤ 6) ∧ ∀ r, r < ln → 97 ≤ tx r ∧ tx r ≤ 122)))), (0, .ref h0)] (by decide) rfl ?_
          refine z_lsub [4, 3, 2, 1, 0] [(0, .ref h0), (1, zi (zb (decide ((1 ≤ ln ∧ ln ≤ 6) ∧ ∀ r, r < ln → 97 ≤ tx r ∧ tx r ≤ 122)))), (2, zi ((hhF tx 0 ln : Nat) : Int)), (3, zi ((dpF g (hhF tx 0 ln) 6 0 : Nat) : Int)), (4, zi 0)] rfl ?_
          have LOOP69 : ∀ (N0 : Nat) (w : Nat) (x4 : Int), 7 - w < N0 → x4 = ((w : Nat) : Int) → ((dpF g (hhF tx 0 ln) 6 0) + w ≤ 6) → (dsF (bgB g (hhF tx 0 ln) cnt) (6 - ((dpF g (hhF tx 0 ln) 6 0) + w)) ((dpF g (hhF tx 0 ln) 6 0) + w) = dsF (bgB g (hhF tx 0 ln) cnt) (6 - (dpF g (hhF tx 0 ln) 6 0)) (dpF g (hhF tx 0 ln) 6 0)) → zW p l e ({ frames := 3, cells := 0, slots := 0, locals := 69 } : Room) s m ([.ref h0] : List Value).toArray below meth c D A 5 Q 0 0 [zO h0 6 [zi 0, .ref aS, zi ((sv : Nat) : Int), .ref aF, .ref aX, zi ((ln : Nat) : Int), zi ((ta : Nat) : Int), zi sg, zi ((f1 : Nat) : Int), zi ((l1 : Nat) : Int), zi ((f2 : Nat) : Int), zi ((l2 : Nat) : Int)], zAI ct aS 3888 g, zAZ ct aF 2 fz, zAI ct aX 80 (zN tx)] [(0, .ref h0), (1, zi (zb (decide ((1 ≤ ln ∧ ln ≤ 6) ∧ ∀ r, r < ln → 97 ≤ tx r ∧ tx r ≤ 122)))), (2, zi ((hhF tx 0 ln : Nat) : Int)), (3, zi ((dpF g (hhF tx 0 ln) 6 0 : Nat) : Int)), (4, zi x4)] 69 [] := by
            intro N0
            induction N0 with
            | zero => intro w x4 hm0; exact absurd hm0 (Nat.not_lt_zero _)
            | succ N0 ih0 =>
              intro w x4 hm0 ex4 hi he
              subst ex4
              refine z_iload_n Z dX7_leavesIfAdded_69 3 rfl ?_
              refine z_iload Z dX7_leavesIfAdded_70 4 rfl ?_
              refine z_iadd Z dX7_leavesIfAdded_72 ?_
              refine z_top (y := (((dpF g (hhF tx 0 ln) 6 0) + w : Nat) : Int)) (by omega) ?_
              refine z_bipush (v := 6) Z dX7_leavesIfAdded_73 (by decide +kernel) ?_
              refine z_icmp_ge Z 99 dX7_leavesIfAdded_75 (by decide) (by omega) (by omega) (fun h75 => ?_) (fun h75 => ?_)
              · have hz9 : dsF (bgB g (hhF tx 0 ln) cnt) (6 - (dpF g (hhF tx 0 ln) 6 0)) (dpF g (hhF tx 0 ln) 6 0) = (dpF g (hhF tx 0 ln) 6 0) + w := by rw [← he, show 6 - ((dpF g (hhF tx 0 ln) 6 0) + w) = 0 from by omega]; rfl
                refine z_aload_n Z dX7_leavesIfAdded_99 0 rfl ?_
                refine z_callVu (rest := []) Z dX7_leavesIfAdded_100 6 0 _ _ rfl rfl rfl (zc_X7_leavesNow l D ct (h0) (aS) (aF) (aX) (0) (sg) (sv) (ln) (ta) (f1) (l1) (f2) (l2) (g)) (cwV 0 Z.1.2.2.2.2 gX7_leavesIfAdded_X7_leavesNow rfl rfl rfl (by decide +kernel) ⟨Nat.le_of_ble_eq_true rfl, Nat.le_of_ble_eq_true rfl⟩) rfl (Nat.le_of_ble_eq_true rfl) ⟨Nat.le_of_ble_eq_true rfl, Nat.le_of_ble_eq_true rfl⟩ [true, true, false, false] [zO h0 6 [zi 0, .ref aS, zi ((sv : Nat) : Int), .ref aF, .ref aX, zi ((ln : Nat) : Int), zi ((ta : Nat) : Int), zi sg, zi ((f1 : Nat) : Int), zi ((l1 : Nat) : Int), zi ((f2 : Nat) : Int), zi ((l2 : Nat) : Int)], zAI ct aS 3888 g, zAZ ct aF 2 fz, zAI ct aX 80 (zN tx)] [zi (1 + g 2 - g 3)] rfl rfl rfl rfl ?_
                refine z_iload Z dX7_leavesIfAdded_103 4 rfl ?_
                refine z_iadd Z dX7_leavesIfAdded_105 ?_
                refine z_eqs [zO h0 6 [zi 0, .ref aS, zi ((sv : Nat) : Int), .ref aF, .ref aX, zi ((ln : Nat) : Int), zi ((ta : Nat) : Int), zi sg, zi ((f1 : Nat) : Int), zi ((l1 : Nat) : Int), zi ((f2 : Nat) : Int), zi ((l2 : Nat) : Int)], zAI ct aS 3888 g, zAZ ct aF 2 fz, zAI ct aX 80 (zN tx)] _ [zi (1 + g 2 - g 3 + ((dsF (bgB g (hhF tx 0 ln) cnt) (6 - (dpF g (hhF tx 0 ln) 6 0)) (dpF g (hhF tx 0 ln) 6 0) - (dpF g (hhF tx 0 ln) 6 0) : Nat) : Int))] (rfl) rfl (congrArg (fun z => [zi z]) (by rw [hz9, Nat.add_sub_cancel_left])) ?_
                exact hR _ _ () trivial dX7_leavesIfAdded_106
              · refine z_aload_n Z dX7_leavesIfAdded_78 0 rfl ?_
                refine z_iload_n Z dX7_leavesIfAdded_79 2 rfl ?_
                refine z_iload_n Z dX7_leavesIfAdded_80 3 rfl ?_
                refine z_iload Z dX7_leavesIfAdded_81 4 rfl ?_
                refine z_iadd Z dX7_leavesIfAdded_83 ?_
                refine z_top (y := (((dpF g (hhF tx 0 ln) 6 0) + w : Nat) : Int)) (by omega) ?_
                refine z_callVu (rest := []) Z dX7_leavesIfAdded_84 6 0 _ _ rfl rfl rfl (zc_X7_beginning l D ct (h0) (aS) (aF) (aX) (0) (sg) (sv) (ln) (ta) (f1) (l1) (f2) (l2) (g) (cnt) (hhF tx 0 ln) ((dpF g (hhF tx 0 ln) 6 0) + w) (by first | assumption | omega) (by first | assumption | omega) (by first | assumption | omega) (by first | assumption | omega) (by first | assumption | omega) (by first | assumption | omega)) (cwV 2 Z.1.2.2.2.2 gX7_leavesIfAdded_X7_beginning rfl rfl rfl (by decide +kernel) ⟨Nat.le_of_ble_eq_true rfl, Nat.le_of_ble_eq_true rfl⟩) rfl (Nat.le_of_ble_eq_true rfl) ⟨Nat.le_of_ble_eq_true rfl, Nat.le_of_ble_eq_true rfl⟩ [true, true, false, false] [zO h0 6 [zi 0, .ref aS, zi ((sv : Nat) : Int), .ref aF, .ref aX, zi ((ln : Nat) : Int), zi ((ta : Nat) : Int), zi sg, zi ((f1 : Nat) : Int), zi ((l1 : Nat) : Int), zi ((f2 : Nat) : Int), zi ((l2 : Nat) : Int)], zAI ct aS 3888 g, zAZ ct aF 2 fz, zAI ct aX 80 (zN tx)] [zi ((bgF g (hhF tx 0 ln) ((dpF g (hhF tx 0 ln) 6 0) + w) cnt : Nat) : Int)] rfl rfl rfl rfl ?_
                have hb9 := bgF_le g (hhF tx 0 ln) ((dpF g (hhF tx 0 ln) 6 0) + w) cnt
                refine z_iconst (v := 1) Z dX7_leavesIfAdded_87 rfl ?_
                refine z_iadd Z dX7_leavesIfAdded_88 ?_
                refine z_top (y := (((bgF g (hhF tx 0 ln) ((dpF g (hhF tx 0 ln) 6 0) + w) cnt) + 1 : Nat) : Int)) (by omega) ?_
                refine z_iconst (v := 4) Z dX7_leavesIfAdded_89 rfl ?_
                refine z_icmp_le Z 99 dX7_leavesIfAdded_90 (by decide) (by omega) (by omega) (fun h90 => ?_) (fun h90 => ?_)
                · have hz9 : dsF (bgB g (hhF tx 0 ln) cnt) (6 - (dpF g (hhF tx 0 ln) 6 0)) (dpF g (hhF tx 0 ln) 6 0) = (dpF g (hhF tx 0 ln) 6 0) + w := by rw [← he]; exact dsF_stop (decide_eq_false (by omega))
                  refine z_aload_n Z dX7_leavesIfAdded_99 0 rfl ?_
                  refine z_callVu (rest := []) Z dX7_leavesIfAdded_100 6 0 _ _ rfl rfl rfl (zc_X7_leavesNow l D ct (h0) (aS) (aF) (aX) (0) (sg) (sv) (ln) (ta) (f1) (l1) (f2) (l2) (g)) (cwV 0 Z.1.2.2.2.2 gX7_leavesIfAdded_X7_leavesNow rfl rfl rfl (by decide +kernel) ⟨Nat.le_of_ble_eq_true rfl, Nat.le_of_ble_eq_true rfl⟩) rfl (Nat.le_of_ble_eq_true rfl) ⟨Nat.le_of_ble_eq_true rfl, Nat.le_of_ble_eq_true rfl⟩ [true, true, false, false] [zO h0 6 [zi 0, .ref aS, zi ((sv : Nat) : Int), .ref aF, .ref aX, zi ((ln : Nat) : Int), zi ((ta : Nat) : Int), zi sg, zi ((f1 : Nat) : Int), zi ((l1 : Nat) : Int), zi ((f2 : Nat) : Int), zi ((l2 : Nat) : Int)], zAI ct aS 3888 g, zAZ ct aF 2 fz, zAI ct aX 80 (zN tx)] [zi (1 + g 2 - g 3)] rfl rfl rfl rfl ?_
                  refine z_iload Z dX7_leavesIfAdded_103 4 rfl ?_
                  refine z_iadd Z dX7_leavesIfAdded_105 ?_
                  refine z_eqs [zO h0 6 [zi 0, .ref aS, zi ((sv : Nat) : Int), .ref aF, .ref aX, zi ((ln : Nat) : Int), zi ((ta : Nat) : Int), zi sg, zi ((f1 : Nat) : Int), zi ((l1 : Nat) : Int), zi ((f2 : Nat) : Int), zi ((l2 : Nat) : Int)], zAI ct aS 3888 g, zAZ ct aF 2 fz, zAI ct aX 80 (zN tx)] _ [zi (1 + g 2 - g 3 + ((dsF (bgB g (hhF tx 0 ln) cnt) (6 - (dpF g (hhF tx 0 ln) 6 0)) (dpF g (hhF tx 0 ln) 6 0) - (dpF g (hhF tx 0 ln) 6 0) : Nat) : Int))] (rfl) rfl (congrArg (fun z => [zi z]) (by rw [hz9, Nat.add_sub_cancel_left])) ?_
                  exact hR _ _ () trivial dX7_leavesIfAdded_106
                · refine z_iinc (v := ((w + 1 : Nat) : Int)) Z dX7_leavesIfAdded_93 4 [(4, zi ((w + 1 : Nat) : Int)), (0, .ref h0), (1, zi (zb (decide ((1 ≤ ln ∧ ln ≤ 6) ∧ ∀ r, r < ln → 97 ≤ tx r ∧ tx r ≤ 122)))), (2, zi ((hhF tx 0 ln : Nat) : Int)), (3, zi ((dpF g (hhF tx 0 ln) 6 0 : Nat) : Int))] rfl (by omega) (by decide) rfl ?_
                  refine z_goto Z 69 dX7_leavesIfAdded_96 (by decide) ?_
                  refine z_lsub [1, 2, 3, 4, 0] [(0, .ref h0), (1, zi (zb (decide ((1 ≤ ln ∧ ln ≤ 6) ∧ ∀ r, r < ln → 97 ≤ tx r ∧ tx r ≤ 122)))), (2, zi ((hhF tx 0 ln : Nat) : Int)), (3, zi ((dpF g (hhF tx 0 ln) 6 0 : Nat) : Int)), (4, zi ((w + 1 : Nat) : Int))] rfl ?_
                  exact ih0 (w + 1) _ (by omega) (by first | rfl | omega)  (by first | assumption | omega) (by rw [← Nat.add_assoc (dpF g (hhF tx 0 ln) 6 0) w 1]; exact (dsF_next (d := (dpF g (hhF tx 0 ln) 6 0) + w) (by omega) (decide_eq_true (by omega))).symm.trans he)
          exact LOOP69 (7 - 0 + 1) 0 _ (Nat.lt_succ_self _) (by first | rfl | omega)  (by first | assumption | omega) (rfl)
        · have h45 := of_decide_eq_false h45
          exfalso; first | contradiction | omega
      · exfalso; first | contradiction | omega
  · have h7 := of_decide_eq_false h7
    exfalso; first | contradiction | omega
set_option maxHeartbeats 4000000 in
set_option maxRecDepth 100000 in
theorem zc_X7_position_1 (l : Launch) (D : va_G) (ct : zCT) (h0 : Nat) (aS : Nat) (aF : Nat) (aX : Nat) (th : Int) (sg : Int) (sv : Nat) (ln : Nat) (ta : Nat) (f1 : Nat) (l1 : Nat) (f2 : Nat) (l2 : Nat) (g : Nat → Int) (fz : Nat → Int) (tx : Nat → Nat) (r : Int) (hr : -2147483648 ≤ r ∧ r < 2147483648) (hrr : ¬ (0 ≤ r ∧ r ≤ 3)) : zMet l yX7_position wsX7_position ({ frames := 2, cells := 0, slots := 0, locals := 42 } : Room) D ct [.ref h0, zi r] [zO h0 6 [zi th, .ref aS, zi ((sv : Nat) : Int), .ref aF, .ref aX, zi ((ln : Nat) : Int), zi ((ta : Nat) : Int), zi sg, zi ((f1 : Nat) : Int), zi ((l1 : Nat) : Int), zi ((f2 : Nat) : Int), zi ((l2 : Nat) : Int)], zAI ct aS 3888 g, zAZ ct aF 2 fz, zAI ct aX 80 (zN tx)] (fun _ : Unit => True) (fun _ => some (zi (0))) (fun _ => [zO h0 6 [zi 1, .ref aS, zi ((sv : Nat) : Int), .ref aF, .ref aX, zi ((ln : Nat) : Int), zi ((ta : Nat) : Int), zi sg, zi ((f1 : Nat) : Int), zi ((l1 : Nat) : Int), zi ((f2 : Nat) : Int), zi ((l2 : Nat) : Int)], zAI ct aS 3888 g, zAZ ct aF 2 fz, zAI ct aX 80 (zN tx)]) 0 0 := by
  refine zMet_i (cc := cX7_position) (maxL := 2) (r := fun _ => 0) (by decide) rfl (Nat.le_of_ble_eq_true rfl) ?_
  intro p e s m below meth c A Q Z hnm hR
  refine z_eqs _ [(0, .ref h0), (1, zi r)] _ rfl rfl rfl ?_
  refine z_aload_n Z dX7_position_0 0 rfl ?_
  refine z_iload_n Z dX7_position_1 1 rfl ?_
  refine z_callSu (rest := [.ref h0]) Z dX7_position_2 (zc_X7_isReader l D ct (r) (by first | assumption | omega)) (va_cwS 1 Z.1.2.2.2.2 gX7_position_X7_isReader rfl rfl rfl (by decide +kernel) ⟨Nat.le_of_ble_eq_true rfl, Nat.le_of_ble_eq_true rfl⟩) rfl (Nat.le_of_ble_eq_true rfl) ⟨Nat.le_of_ble_eq_true rfl, Nat.le_of_ble_eq_true rfl⟩ [false, false, false, false] [zO h0 6 [zi th, .ref aS, zi ((sv : Nat) : Int), .ref aF, .ref aX, zi ((ln : Nat) : Int), zi ((ta : Nat) : Int), zi sg, zi ((f1 : Nat) : Int), zi ((l1 : Nat) : Int), zi ((f2 : Nat) : Int), zi ((l2 : Nat) : Int)], zAI ct aS 3888 g, zAZ ct aF 2 fz, zAI ct aX 80 (zN tx)] [zi (zb (decide (0 ≤ r ∧ r ≤ 3))), .ref h0] rfl rfl rfl rfl ?_
  refine z_ifb_eq Z 12 dX7_position_5 (by decide) (fun h5 => ?_) (fun h5 => ?_)
  · have h5 := of_decide_eq_false h5
    refine z_iconst (v := 1) Z dX7_position_12 rfl ?_
    refine z_callVu (rest := []) Z dX7_position_13 6 0 _ _ rfl rfl rfl (zc_X7_holds l D ct (h0) (aS) (aF) (aX) (th) (sg) (sv) (ln) (ta) (f1) (l1) (f2) (l2) (1) (by first | assumption | omega)) (cwV 1 Z.1.2.2.2.2 gX7_position_X7_holds rfl rfl rfl (by decide +kernel) ⟨Nat.le_of_ble_eq_true rfl, Nat.le_of_ble_eq_true rfl⟩) rfl (Nat.le_of_ble_eq_true rfl) ⟨Nat.le_of_ble_eq_true rfl, Nat.le_of_ble_eq_true rfl⟩ [true, false, false, false] [zO h0 6 [zi 1, .ref aS, zi ((sv : Nat) : Int), .ref aF, .ref aX, zi ((ln : Nat) : Int), zi ((ta : Nat) : Int), zi sg, zi ((f1 : Nat) : Int), zi ((l1 : Nat) : Int), zi ((f2 : Nat) : Int), zi ((l2 : Nat) : Int)], zAI ct aS 3888 g, zAZ ct aF 2 fz, zAI ct aX 80 (zN tx)] [zi (zb (decide (1 = 0)))] rfl rfl rfl rfl ?_
    refine z_ifb_eq Z 30 dX7_position_16 (by decide) (fun h16 => ?_) (fun h16 => ?_)
    · have h16 := of_decide_eq_false h16
      refine z_iconst (v := 0) Z dX7_position_30 rfl ?_
      refine z_eqs [zO h0 6 [zi 1, .ref aS, zi ((sv : Nat) : Int), .ref aF, .ref aX, zi ((ln : Nat) : Int), zi ((ta : Nat) : Int), zi sg, zi ((f1 : Nat) : Int), zi ((l1 : Nat) : Int), zi ((f2 : Nat) : Int), zi ((l2 : Nat) : Int)], zAI ct aS 3888 g, zAZ ct aF 2 fz, zAI ct aX 80 (zN tx)] _ [zi 0] (rfl) rfl (rfl) ?_
      exact hR _ _ () trivial dX7_position_31
    · have h16 := of_decide_eq_true h16
      exfalso; first | contradiction | omega
  · have h5 := of_decide_eq_true h5
    exfalso; first | contradiction | omega
theorem zin_X7_position_X7 : ∀ w ∈ wsX70, w ∈ wsX7_position := by decide +kernel
theorem zlk_X7_position_7 : Cond.fieldLink RX7 7 "HashedDirectoryModel" "s" "[I" ∈ wsX7_position := by decide +kernel
set_option maxHeartbeats 4000000 in
set_option maxRecDepth 100000 in
theorem zc_X7_position_0 (l : Launch) (D : va_G) (ct : zCT) (h0 : Nat) (aS : Nat) (aF : Nat) (aX : Nat) (th : Int) (sg : Int) (sv : Nat) (ln : Nat) (ta : Nat) (f1 : Nat) (l1 : Nat) (f2 : Nat) (l2 : Nat) (g : Nat → Int) (fz : Nat → Int) (tx : Nat → Nat) (cnt : Nat) (r : Nat) (hcn : g 0 = ((cnt : Nat) : Int)) (hc : cnt ≤ 40) (hg : ∀ k, k < 432 → -2 ≤ g k ∧ g k < 70000) (hr : r < 4) : zMet l yX7_position wsX7_position ({ frames := 2, cells := 0, slots := 0, locals := 42 } : Room) D ct [.ref h0, zi ((r : Nat) : Int)] [zO h0 6 [zi th, .ref aS, zi ((sv : Nat) : Int), .ref aF, .ref aX, zi ((ln : Nat) : Int), zi ((ta : Nat) : Int), zi sg, zi ((f1 : Nat) : Int), zi ((l1 : Nat) : Int), zi ((f2 : Nat) : Int), zi ((l2 : Nat) : Int)], zAI ct aS 3888 g, zAZ ct aF 2 fz, zAI ct aX 80 (zN tx)] (fun _ : Unit => True) (fun _ => some (zi ((g (4 + r))))) (fun _ => [zO h0 6 [zi 0, .ref aS, zi ((sv : Nat) : Int), .ref aF, .ref aX, zi ((ln : Nat) : Int), zi ((ta : Nat) : Int), zi sg, zi ((f1 : Nat) : Int), zi ((l1 : Nat) : Int), zi ((f2 : Nat) : Int), zi ((l2 : Nat) : Int)], zAI ct aS 3888 g, zAZ ct aF 2 fz, zAI ct aX 80 (zN tx)]) 0 0 := by
  refine zMet_i (cc := cX7_position) (maxL := 2) (r := fun _ => (g (4 + r))) (by decide) rfl (Nat.le_of_ble_eq_true rfl) ?_
  intro p e s m below meth c A Q Z hnm hR
  refine z_eqs _ [(0, .ref h0), (1, zi ((r : Nat) : Int))] _ rfl rfl rfl ?_
  refine z_aload_n Z dX7_position_0 0 rfl ?_
  refine z_iload_n Z dX7_position_1 1 rfl ?_
  refine z_callSu (rest := [.ref h0]) Z dX7_position_2 (zc_X7_isReader l D ct (((r : Nat) : Int)) (by first | assumption | omega)) (va_cwS 1 Z.1.2.2.2.2 gX7_position_X7_isReader rfl rfl rfl (by decide +kernel) ⟨Nat.le_of_ble_eq_true rfl, Nat.le_of_ble_eq_true rfl⟩) rfl (Nat.le_of_ble_eq_true rfl) ⟨Nat.le_of_ble_eq_true rfl, Nat.le_of_ble_eq_true rfl⟩ [false, false, false, false] [zO h0 6 [zi th, .ref aS, zi ((sv : Nat) : Int), .ref aF, .ref aX, zi ((ln : Nat) : Int), zi ((ta : Nat) : Int), zi sg, zi ((f1 : Nat) : Int), zi ((l1 : Nat) : Int), zi ((f2 : Nat) : Int), zi ((l2 : Nat) : Int)], zAI ct aS 3888 g, zAZ ct aF 2 fz, zAI ct aX 80 (zN tx)] [zi (zb (decide (0 ≤ ((r : Nat) : Int) ∧ ((r : Nat) : Int) ≤ 3))), .ref h0] rfl rfl rfl rfl ?_
  refine z_ifb_eq Z 12 dX7_position_5 (by decide) (fun h5 => ?_) (fun h5 => ?_)
  · have h5 := of_decide_eq_false h5
    exfalso; first | contradiction | omega
  · have h5 := of_decide_eq_true h5
    refine z_iconst (v := 0) Z dX7_position_8 rfl ?_
    refine z_goto Z 13 dX7_position_9 (by decide) ?_
    refine z_callVu (rest := []) Z dX7_position_13 6 0 _ _ rfl rfl rfl (zc_X7_holds l D ct (h0) (aS) (aF) (aX) (th) (sg) (sv) (ln) (ta) (f1) (l1) (f2) (l2) (0) (by first | assumption | omega)) (cwV 1 Z.1.2.2.2.2 gX7_position_X7_holds rfl rfl rfl (by decide +kernel) ⟨Nat.le_of_ble_eq_true rfl, Nat.le_of_ble_eq_true rfl⟩) rfl (Nat.le_of_ble_eq_true rfl) ⟨Nat.le_of_ble_eq_true rfl, Nat.le_of_ble_eq_true rfl⟩ [true, false, false, false] [zO h0 6 [zi 0, .ref aS, zi ((sv : Nat) : Int), .ref aF, .ref aX, zi ((ln : Nat) : Int), zi ((ta : Nat) : Int), zi sg, zi ((f1 : Nat) : Int), zi ((l1 : Nat) : Int), zi ((f2 : Nat) : Int), zi ((l2 : Nat) : Int)], zAI ct aS 3888 g, zAZ ct aF 2 fz, zAI ct aX 80 (zN tx)] [zi (zb (decide (0 = 0)))] rfl rfl rfl rfl ?_
    refine z_ifb_eq Z 30 dX7_position_16 (by decide) (fun h16 => ?_) (fun h16 => ?_)
    · have h16 := of_decide_eq_false h16
      exfalso; first | contradiction | omega
    · have h16 := of_decide_eq_true h16
      refine z_aload_n Z dX7_position_19 0 rfl ?_
      refine z_get Z dX7_position_20 zin_X7_position_X7 0 1 rfl rfl (by decide) zlk_X7_position_7 rfl ?_
      refine z_iconst (v := 4) Z dX7_position_23 rfl ?_
      refine z_iload_n Z dX7_position_24 1 rfl ?_
      refine z_iadd Z dX7_position_25 ?_
      refine z_top (y := ((4 + r : Nat) : Int)) (by omega) ?_
      refine z_iald Z dX7_position_26 1 (4 + r) rfl (rfl) ⟨by omega, by omega⟩ ?_
      have he1 := hg (4 + r) (by omega)
      refine z_goto Z 31 dX7_position_27 (by decide) ?_
      refine z_eqs [zO h0 6 [zi 0, .ref aS, zi ((sv : Nat) : Int), .ref aF, .ref aX, zi ((ln : Nat) : Int), zi ((ta : Nat) : Int), zi sg, zi ((f1 : Nat) : Int), zi ((l1 : Nat) : Int), zi ((f2 : Nat) : Int), zi ((l2 : Nat) : Int)], zAI ct aS 3888 g, zAZ ct aF 2 fz, zAI ct aX 80 (zN tx)] _ [zi (g (4 + r))] (rfl) rfl (rfl) ?_
      exact hR _ _ () trivial dX7_position_31
set_option maxHeartbeats 4000000 in
set_option maxRecDepth 100000 in
theorem zc_X7_peek_1 (l : Launch) (D : va_G) (ct : zCT) (h0 : Nat) (aS : Nat) (aF : Nat) (aX : Nat) (th : Int) (sg : Int) (sv : Nat) (ln : Nat) (ta : Nat) (f1 : Nat) (l1 : Nat) (f2 : Nat) (l2 : Nat) (g : Nat → Int) (fz : Nat → Int) (tx : Nat → Nat) (r : Int) (hr : -2147483648 ≤ r ∧ r < 2147483648) (hrr : ¬ (0 ≤ r ∧ r ≤ 3)) : zMet l yX7_peek wsX7_peek ({ frames := 2, cells := 0, slots := 0, locals := 42 } : Room) D ct [.ref h0, zi r] [zO h0 6 [zi th, .ref aS, zi ((sv : Nat) : Int), .ref aF, .ref aX, zi ((ln : Nat) : Int), zi ((ta : Nat) : Int), zi sg, zi ((f1 : Nat) : Int), zi ((l1 : Nat) : Int), zi ((f2 : Nat) : Int), zi ((l2 : Nat) : Int)], zAI ct aS 3888 g, zAZ ct aF 2 fz, zAI ct aX 80 (zN tx)] (fun _ : Unit => True) (fun _ => some (zi (0))) (fun _ => [zO h0 6 [zi 1, .ref aS, zi ((sv : Nat) : Int), .ref aF, .ref aX, zi ((ln : Nat) : Int), zi ((ta : Nat) : Int), zi sg, zi ((f1 : Nat) : Int), zi ((l1 : Nat) : Int), zi ((f2 : Nat) : Int), zi ((l2 : Nat) : Int)], zAI ct aS 3888 g, zAZ ct aF 2 fz, zAI ct aX 80 (zN tx)]) 0 0 := by
  refine zMet_i (cc := cX7_peek) (maxL := 3) (r := fun _ => 0) (by decide) rfl (Nat.le_of_ble_eq_true rfl) ?_
  intro p e s m below meth c A Q Z hnm hR
  refine z_eqs _ [(0, .ref h0), (1, zi r)] _ rfl rfl rfl ?_
  refine z_aload_n Z dX7_peek_0 0 rfl ?_
  refine z_iload_n Z dX7_peek_1 1 rfl ?_
  refine z_callSu (rest := [.ref h0]) Z dX7_peek_2 (zc_X7_isReader l D ct (r) (by first | assumption | omega)) (va_cwS 1 Z.1.2.2.2.2 gX7_peek_X7_isReader rfl rfl rfl (by decide +kernel) ⟨Nat.le_of_ble_eq_true rfl, Nat.le_of_ble_eq_true rfl⟩) rfl (Nat.le_of_ble_eq_true rfl) ⟨Nat.le_of_ble_eq_true rfl, Nat.le_of_ble_eq_true rfl⟩ [false, false, false, false] [zO h0 6 [zi th, .ref aS, zi ((sv : Nat) : Int), .ref aF, .ref aX, zi ((ln : Nat) : Int), zi ((ta : Nat) : Int), zi sg, zi ((f1 : Nat) : Int), zi ((l1 : Nat) : Int), zi ((f2 : Nat) : Int), zi ((l2 : Nat) : Int)], zAI ct aS 3888 g, zAZ ct aF 2 fz, zAI ct aX 80 (zN tx)] [zi (zb (decide (0 ≤ r ∧ r ≤ 3))), .ref h0] rfl rfl rfl rfl ?_
  refine z_ifb_eq Z 12 dX7_peek_5 (by decide) (fun h5 => ?_) (fun h5 => ?_)
  · have h5 := of_decide_eq_false h5
    refine z_iconst (v := 1) Z dX7_peek_12 rfl ?_
    refine z_callVu (rest := []) Z dX7_peek_13 6 0 _ _ rfl rfl rfl (zc_X7_holds l D ct (h0) (aS) (aF) (aX) (th) (sg) (sv) (ln) (ta) (f1) (l1) (f2) (l2) (1) (by first | assumption | omega)) (cwV 1 Z.1.2.2.2.2 gX7_peek_X7_holds rfl rfl rfl (by decide +kernel) ⟨Nat.le_of_ble_eq_true rfl, Nat.le_of_ble_eq_true rfl⟩) rfl (Nat.le_of_ble_eq_true rfl) ⟨Nat.le_of_ble_eq_true rfl, Nat.le_of_ble_eq_true rfl⟩ [true, false, false, false] [zO h0 6 [zi 1, .ref aS, zi ((sv : Nat) : Int), .ref aF, .ref aX, zi ((ln : Nat) : Int), zi ((ta : Nat) : Int), zi sg, zi ((f1 : Nat) : Int), zi ((l1 : Nat) : Int), zi ((f2 : Nat) : Int), zi ((l2 : Nat) : Int)], zAI ct aS 3888 g, zAZ ct aF 2 fz, zAI ct aX 80 (zN tx)] [zi (zb (decide (1 = 0)))] rfl rfl rfl rfl ?_
    refine z_ifb_ne Z 21 dX7_peek_16 (by decide) (fun h16 => ?_) (fun h16 => ?_)
    · have h16 := of_decide_eq_true h16
      exfalso; first | contradiction | omega
    · have h16 := of_decide_eq_false h16
      refine z_iconst (v := 0) Z dX7_peek_19 rfl ?_
      refine z_eqs [zO h0 6 [zi 1, .ref aS, zi ((sv : Nat) : Int), .ref aF, .ref aX, zi ((ln : Nat) : Int), zi ((ta : Nat) : Int), zi sg, zi ((f1 : Nat) : Int), zi ((l1 : Nat) : Int), zi ((f2 : Nat) : Int), zi ((l2 : Nat) : Int)], zAI ct aS 3888 g, zAZ ct aF 2 fz, zAI ct aX 80 (zN tx)] _ [zi 0] (rfl) rfl (rfl) ?_
      exact hR _ _ () trivial dX7_peek_20
  · have h5 := of_decide_eq_true h5
    exfalso; first | contradiction | omega
theorem zin_X7_peek_X7 : ∀ w ∈ wsX70, w ∈ wsX7_peek := by decide +kernel
theorem zlk_X7_peek_7 : Cond.fieldLink RX7 7 "HashedDirectoryModel" "s" "[I" ∈ wsX7_peek := by decide +kernel
set_option maxHeartbeats 4000000 in
set_option maxRecDepth 100000 in
theorem zc_X7_peek_0 (l : Launch) (D : va_G) (ct : zCT) (h0 : Nat) (aS : Nat) (aF : Nat) (aX : Nat) (th : Int) (sg : Int) (sv : Nat) (ln : Nat) (ta : Nat) (f1 : Nat) (l1 : Nat) (f2 : Nat) (l2 : Nat) (g : Nat → Int) (fz : Nat → Int) (tx : Nat → Nat) (cnt : Nat) (r : Nat) (hcn : g 0 = ((cnt : Nat) : Int)) (hc : cnt ≤ 40) (hg : ∀ k, k < 432 → -2 ≤ g k ∧ g k < 70000) (hr : r < 4) : zMet l yX7_peek wsX7_peek ({ frames := 3, cells := 0, slots := 0, locals := 65 } : Room) D ct [.ref h0, zi ((r : Nat) : Int)] [zO h0 6 [zi th, .ref aS, zi ((sv : Nat) : Int), .ref aF, .ref aX, zi ((ln : Nat) : Int), zi ((ta : Nat) : Int), zi sg, zi ((f1 : Nat) : Int), zi ((l1 : Nat) : Int), zi ((f2 : Nat) : Int), zi ((l2 : Nat) : Int)], zAI ct aS 3888 g, zAZ ct aF 2 fz, zAI ct aX 80 (zN tx)] (fun _ : Unit => True) (fun _ => some (zi ((if g (4 + r) = -2 ∨ npF g r cnt = cnt then -2 else mI g (npF g r cnt) 0)))) (fun _ => [zO h0 6 [zi 0, .ref aS, zi ((sv : Nat) : Int), .ref aF, .ref aX, zi ((ln : Nat) : Int), zi ((ta : Nat) : Int), zi sg, zi ((f1 : Nat) : Int), zi ((l1 : Nat) : Int), zi ((f2 : Nat) : Int), zi ((l2 : Nat) : Int)], zAI ct aS 3888 g, zAZ ct aF 2 fz, zAI ct aX 80 (zN tx)]) 0 0 := by
  refine zMet_i (cc := cX7_peek) (maxL := 3) (r := fun _ => (if g (4 + r) = -2 ∨ npF g r cnt = cnt then -2 else mI g (npF g r cnt) 0)) (by decide) rfl (Nat.le_of_ble_eq_true rfl) ?_
  intro p e s m below meth c A Q Z hnm hR
  refine z_eqs _ [(0, .ref h0), (1, zi ((r : Nat) : Int))] _ rfl rfl rfl ?_
  refine z_aload_n Z dX7_peek_0 0 rfl ?_
  refine z_iload_n Z dX7_peek_1 1 rfl ?_
  refine z_callSu (rest := [.ref h0]) Z dX7_peek_2 (zc_X7_isReader l D ct (((r : Nat) : Int)) (by first | assumption | omega)) (va_cwS 1 Z.1.2.2.2.2 gX7_peek_X7_isReader rfl rfl rfl (by decide +kernel) ⟨Nat.le_of_ble_eq_true rfl, Nat.le_of_ble_eq_true rfl⟩) rfl (Nat.le_of_ble_eq_true rfl) ⟨Nat.le_of_ble_eq_true rfl, Nat.le_of_ble_eq_true rfl⟩ [false, false, false, false] [zO h0 6 [zi th, .ref aS, zi ((sv : Nat) : Int), .ref aF, .ref aX, zi ((ln : Nat) : Int), zi ((ta : Nat) : Int), zi sg, zi ((f1 : Nat) : Int), zi ((l1 : Nat) : Int), zi ((f2 : Nat) : Int), zi ((l2 : Nat) : Int)], zAI ct aS 3888 g, zAZ ct aF 2 fz, zAI ct aX 80 (zN tx)] [zi (zb (decide (0 ≤ ((r : Nat) : Int) ∧ ((r : Nat) : Int) ≤ 3))), .ref h0] rfl rfl rfl rfl ?_
  refine z_ifb_eq Z 12 dX7_peek_5 (by decide) (fun h5 => ?_) (fun h5 => ?_)
  · have h5 := of_decide_eq_false h5
    exfalso; first | contradiction | omega
  · have h5 := of_decide_eq_true h5
    refine z_iconst (v := 0) Z dX7_peek_8 rfl ?_
    refine z_goto Z 13 dX7_peek_9 (by decide) ?_
    refine z_callVu (rest := []) Z dX7_peek_13 6 0 _ _ rfl rfl rfl (zc_X7_holds l D ct (h0) (aS) (aF) (aX) (th) (sg) (sv) (ln) (ta) (f1) (l1) (f2) (l2) (0) (by first | assumption | omega)) (cwV 1 Z.1.2.2.2.2 gX7_peek_X7_holds rfl rfl rfl (by decide +kernel) ⟨Nat.le_of_ble_eq_true rfl, Nat.le_of_ble_eq_true rfl⟩) rfl (Nat.le_of_ble_eq_true rfl) ⟨Nat.le_of_ble_eq_true rfl, Nat.le_of_ble_eq_true rfl⟩ [true, false, false, false] [zO h0 6 [zi 0, .ref aS, zi ((sv : Nat) : Int), .ref aF, .ref aX, zi ((ln : Nat) : Int), zi ((ta : Nat) : Int), zi sg, zi ((f1 : Nat) : Int), zi ((l1 : Nat) : Int), zi ((f2 : Nat) : Int), zi ((l2 : Nat) : Int)], zAI ct aS 3888 g, zAZ ct aF 2 fz, zAI ct aX 80 (zN tx)] [zi (zb (decide (0 = 0)))] rfl rfl rfl rfl ?_
    refine z_ifb_ne Z 21 dX7_peek_16 (by decide) (fun h16 => ?_) (fun h16 => ?_)
    · have h16 := of_decide_eq_true h16
      refine z_aload_n Z dX7_peek_21 0 rfl ?_
      refine z_iload_n Z dX7_peek_22 1 rfl ?_
      refine z_callVu (rest := []) Z dX7_peek_23 6 0 _ _ rfl rfl rfl (zc_X7_nextPlace l D ct (h0) (aS) (aF) (aX) (0) (sg) (sv) (ln) (ta) (f1) (l1) (f2) (l2) (g) (cnt) (r) (by first | assumption | omega) (by first | assumption | omega) (by first | assumption | omega) (by first | assumption | omega)) (cwV 1 Z.1.2.2.2.2 gX7_peek_X7_nextPlace rfl rfl rfl (by decide +kernel) ⟨Nat.le_of_ble_eq_true rfl, Nat.le_of_ble_eq_true rfl⟩) rfl (Nat.le_of_ble_eq_true rfl) ⟨Nat.le_of_ble_eq_true rfl, Nat.le_of_ble_eq_true rfl⟩ [true, true, false, false] [zO h0 6 [zi 0, .ref aS, zi ((sv : Nat) : Int), .ref aF, .ref aX, zi ((ln : Nat) : Int), zi ((ta : Nat) : Int), zi sg, zi ((f1 : Nat) : Int), zi ((l1 : Nat) : Int), zi ((f2 : Nat) : Int), zi ((l2 : Nat) : Int)], zAI ct aS 3888 g, zAZ ct aF 2 fz, zAI ct aX 80 (zN tx)] [zi ((npF g r cnt : Nat) : Int)] rfl rfl rfl rfl ?_
      have hp9 : npF g r cnt ≤ cnt := fiF_le _ _
      refine z_istore_n Z dX7_peek_26 [(2, zi ((npF g r cnt : Nat) : Int)), (0, .ref h0), (1, zi ((r : Nat) : Int))] (by decide) rfl ?_
      refine z_aload_n Z dX7_peek_27 1 rfl ?_
      refine z_iload_n Z dX7_peek_28 2 rfl ?_
      refine z_callVu (rest := []) Z dX7_peek_29 6 0 _ _ rfl rfl rfl (zc_X7_isOpen l D ct (h0) (aS) (aF) (aX) (0) (sg) (sv) (ln) (ta) (f1) (l1) (f2) (l2) (g) (((r : Nat) : Int)) (by first | assumption | omega) (by first | assumption | omega)) (cwV 1 Z.1.2.2.2.2 gX7_peek_X7_isOpen rfl rfl rfl (by decide +kernel) ⟨Nat.le_of_ble_eq_true rfl, Nat.le_of_ble_eq_true rfl⟩) rfl (Nat.le_of_ble_eq_true rfl) ⟨Nat.le_of_ble_eq_true rfl, Nat.le_of_ble_eq_true rfl⟩ [true, true, false, false] [zO h0 6 [zi 0, .ref aS, zi ((sv : Nat) : Int), .ref aF, .ref aX, zi ((ln : Nat) : Int), zi ((ta : Nat) : Int), zi sg, zi ((f1 : Nat) : Int), zi ((l1 : Nat) : Int), zi ((f2 : Nat) : Int), zi ((l2 : Nat) : Int)], zAI ct aS 3888 g, zAZ ct aF 2 fz, zAI ct aX 80 (zN tx)] [zi (zb (decide ((0 ≤ ((r : Nat) : Int) ∧ ((r : Nat) : Int) ≤ 3) ∧ g (4 + ((r : Nat) : Int).toNat) ≠ -2)))] rfl rfl rfl rfl ?_
      refine z_ifb_eq Z 45 dX7_peek_32 (by decide) (fun h32 => ?_) (fun h32 => ?_)
      · have h32 := of_decide_eq_false h32
        rw [Int.toNat_natCast] at h32
        refine z_bipush (v := -2) Z dX7_peek_45 (by decide +kernel) ?_
        refine z_goto Z 56 dX7_peek_47 (by decide) ?_
        refine z_eqs [zO h0 6 [zi 0, .ref aS, zi ((sv : Nat) : Int), .ref aF, .ref aX, zi ((ln : Nat) : Int), zi ((ta : Nat) : Int), zi sg, zi ((f1 : Nat) : Int), zi ((l1 : Nat) : Int), zi ((f2 : Nat) : Int), zi ((l2 : Nat) : Int)], zAI ct aS 3888 g, zAZ ct aF 2 fz, zAI ct aX 80 (zN tx)] _ [zi (if g (4 + r) = -2 ∨ npF g r cnt = cnt then -2 else mI g (npF g r cnt) 0)] (rfl) rfl (congrArg (fun z => [zi z]) (by rw [if_pos (by omega)])) ?_
        exact hR _ _ () trivial dX7_peek_56
      · have h32 := of_decide_eq_true h32
        rw [Int.toNat_natCast] at h32
        refine z_iload_n Z dX7_peek_35 0 rfl ?_
        refine z_aload_n Z dX7_peek_36 1 rfl ?_
        refine z_get Z dX7_peek_37 zin_X7_peek_X7 0 1 rfl rfl (by decide) zlk_X7_peek_7 rfl ?_
        refine z_iconst (v := 0) Z dX7_peek_40 rfl ?_
        refine z_iald Z dX7_peek_41 1 (0) rfl (by omega) ⟨by omega, by omega⟩ ?_
        have he1 := hg (0) (by omega)
        refine z_icmp_ne Z 50 dX7_peek_42 (by decide) (by omega) (by omega) (fun h42 => ?_) (fun h42 => ?_)
        · refine z_aload_n Z dX7_peek_50 1 rfl ?_
          refine z_iload_n Z dX7_peek_51 0 rfl ?_
          refine z_iconst (v := 0) Z dX7_peek_52 rfl ?_
          refine z_callVu (rest := []) Z dX7_peek_53 6 0 _ _ rfl rfl rfl (zc_X7_of l D ct (h0) (aS) (aF) (aX) (0) (sg) (sv) (ln) (ta) (f1) (l1) (f2) (l2) (g) (npF g r cnt) (0) (by first | assumption | omega) (by first | assumption | omega)) (cwV 2 Z.1.2.2.2.2 gX7_peek_X7_of rfl rfl rfl (by decide +kernel) ⟨Nat.le_of_ble_eq_true rfl, Nat.le_of_ble_eq_true rfl⟩) rfl (Nat.le_of_ble_eq_true rfl) ⟨Nat.le_of_ble_eq_true rfl, Nat.le_of_ble_eq_true rfl⟩ [true, true, false, false] [zO h0 6 [zi 0, .ref aS, zi ((sv : Nat) : Int), .ref aF, .ref aX, zi ((ln : Nat) : Int), zi ((ta : Nat) : Int), zi sg, zi ((f1 : Nat) : Int), zi ((l1 : Nat) : Int), zi ((f2 : Nat) : Int), zi ((l2 : Nat) : Int)], zAI ct aS 3888 g, zAZ ct aF 2 fz, zAI ct aX 80 (zN tx)] [zi (mI g (npF g r cnt) 0)] rfl rfl rfl rfl ?_
          refine z_eqs [zO h0 6 [zi 0, .ref aS, zi ((sv : Nat) : Int), .ref aF, .ref aX, zi ((ln : Nat) : Int), zi ((ta : Nat) : Int), zi sg, zi ((f1 : Nat) : Int), zi ((l1 : Nat) : Int), zi ((f2 : Nat) : Int), zi ((l2 : Nat) : Int)], zAI ct aS 3888 g, zAZ ct aF 2 fz, zAI ct aX 80 (zN tx)] _ [zi (if g (4 + r) = -2 ∨ npF g r cnt = cnt then -2 else mI g (npF g r cnt) 0)] (rfl) rfl (congrArg (fun z => [zi z]) (by rw [if_neg (by omega)])) ?_
          exact hR _ _ () trivial dX7_peek_56
        · refine z_bipush (v := -2) Z dX7_peek_45 (by decide +kernel) ?_
          refine z_goto Z 56 dX7_peek_47 (by decide) ?_
          refine z_eqs [zO h0 6 [zi 0, .ref aS, zi ((sv : Nat) : Int), .ref aF, .ref aX, zi ((ln : Nat) : Int), zi ((ta : Nat) : Int), zi sg, zi ((f1 : Nat) : Int), zi ((l1 : Nat) : Int), zi ((f2 : Nat) : Int), zi ((l2 : Nat) : Int)], zAI ct aS 3888 g, zAZ ct aF 2 fz, zAI ct aX 80 (zN tx)] _ [zi (if g (4 + r) = -2 ∨ npF g r cnt = cnt then -2 else mI g (npF g r cnt) 0)] (rfl) rfl (congrArg (fun z => [zi z]) (by rw [if_pos (by omega)])) ?_
          exact hR _ _ () trivial dX7_peek_56
    · have h16 := of_decide_eq_false h16
      exfalso; first | contradiction | omega
set_option maxHeartbeats 4000000 in
set_option maxRecDepth 100000 in
theorem zc_X7_remaining_1 (l : Launch) (D : va_G) (ct : zCT) (h0 : Nat) (aS : Nat) (aF : Nat) (aX : Nat) (th : Int) (sg : Int) (sv : Nat) (ln : Nat) (ta : Nat) (f1 : Nat) (l1 : Nat) (f2 : Nat) (l2 : Nat) (g : Nat → Int) (fz : Nat → Int) (tx : Nat → Nat) (r : Int) (hr : -2147483648 ≤ r ∧ r < 2147483648) (hrr : ¬ (0 ≤ r ∧ r ≤ 3)) : zMet l yX7_remaining wsX7_remaining ({ frames := 2, cells := 0, slots := 0, locals := 42 } : Room) D ct [.ref h0, zi r] [zO h0 6 [zi th, .ref aS, zi ((sv : Nat) : Int), .ref aF, .ref aX, zi ((ln : Nat) : Int), zi ((ta : Nat) : Int), zi sg, zi ((f1 : Nat) : Int), zi ((l1 : Nat) : Int), zi ((f2 : Nat) : Int), zi ((l2 : Nat) : Int)], zAI ct aS 3888 g, zAZ ct aF 2 fz, zAI ct aX 80 (zN tx)] (fun _ : Unit => True) (fun _ => some (zi (0))) (fun _ => [zO h0 6 [zi 1, .ref aS, zi ((sv : Nat) : Int), .ref aF, .ref aX, zi ((ln : Nat) : Int), zi ((ta : Nat) : Int), zi sg, zi ((f1 : Nat) : Int), zi ((l1 : Nat) : Int), zi ((f2 : Nat) : Int), zi ((l2 : Nat) : Int)], zAI ct aS 3888 g, zAZ ct aF 2 fz, zAI ct aX 80 (zN tx)]) 0 0 := by
  refine zMet_i (cc := cX7_remaining) (maxL := 2) (r := fun _ => 0) (by decide) rfl (Nat.le_of_ble_eq_true rfl) ?_
  intro p e s m below meth c A Q Z hnm hR
  refine z_eqs _ [(0, .ref h0), (1, zi r)] _ rfl rfl rfl ?_
  refine z_aload_n Z dX7_remaining_0 0 rfl ?_
  refine z_iload_n Z dX7_remaining_1 1 rfl ?_
  refine z_callSu (rest := [.ref h0]) Z dX7_remaining_2 (zc_X7_isReader l D ct (r) (by first | assumption | omega)) (va_cwS 1 Z.1.2.2.2.2 gX7_remaining_X7_isReader rfl rfl rfl (by decide +kernel) ⟨Nat.le_of_ble_eq_true rfl, Nat.le_of_ble_eq_true rfl⟩) rfl (Nat.le_of_ble_eq_true rfl) ⟨Nat.le_of_ble_eq_true rfl, Nat.le_of_ble_eq_true rfl⟩ [false, false, false, false] [zO h0 6 [zi th, .ref aS, zi ((sv : Nat) : Int), .ref aF, .ref aX, zi ((ln : Nat) : Int), zi ((ta : Nat) : Int), zi sg, zi ((f1 : Nat) : Int), zi ((l1 : Nat) : Int), zi ((f2 : Nat) : Int), zi ((l2 : Nat) : Int)], zAI ct aS 3888 g, zAZ ct aF 2 fz, zAI ct aX 80 (zN tx)] [zi (zb (decide (0 ≤ r ∧ r ≤ 3))), .ref h0] rfl rfl rfl rfl ?_
  refine z_ifb_eq Z 12 dX7_remaining_5 (by decide) (fun h5 => ?_) (fun h5 => ?_)
  · have h5 := of_decide_eq_false h5
    refine z_iconst (v := 1) Z dX7_remaining_12 rfl ?_
    refine z_callVu (rest := []) Z dX7_remaining_13 6 0 _ _ rfl rfl rfl (zc_X7_holds l D ct (h0) (aS) (aF) (aX) (th) (sg) (sv) (ln) (ta) (f1) (l1) (f2) (l2) (1) (by first | assumption | omega)) (cwV 1 Z.1.2.2.2.2 gX7_remaining_X7_holds rfl rfl rfl (by decide +kernel) ⟨Nat.le_of_ble_eq_true rfl, Nat.le_of_ble_eq_true rfl⟩) rfl (Nat.le_of_ble_eq_true rfl) ⟨Nat.le_of_ble_eq_true rfl, Nat.le_of_ble_eq_true rfl⟩ [true, false, false, false] [zO h0 6 [zi 1, .ref aS, zi ((sv : Nat) : Int), .ref aF, .ref aX, zi ((ln : Nat) : Int), zi ((ta : Nat) : Int), zi sg, zi ((f1 : Nat) : Int), zi ((l1 : Nat) : Int), zi ((f2 : Nat) : Int), zi ((l2 : Nat) : Int)], zAI ct aS 3888 g, zAZ ct aF 2 fz, zAI ct aX 80 (zN tx)] [zi (zb (decide (1 = 0)))] rfl rfl rfl rfl ?_
    refine z_ifb_ne Z 21 dX7_remaining_16 (by decide) (fun h16 => ?_) (fun h16 => ?_)
    · have h16 := of_decide_eq_true h16
      exfalso; first | contradiction | omega
    · have h16 := of_decide_eq_false h16
      refine z_iconst (v := 0) Z dX7_remaining_19 rfl ?_
      refine z_eqs [zO h0 6 [zi 1, .ref aS, zi ((sv : Nat) : Int), .ref aF, .ref aX, zi ((ln : Nat) : Int), zi ((ta : Nat) : Int), zi sg, zi ((f1 : Nat) : Int), zi ((l1 : Nat) : Int), zi ((f2 : Nat) : Int), zi ((l2 : Nat) : Int)], zAI ct aS 3888 g, zAZ ct aF 2 fz, zAI ct aX 80 (zN tx)] _ [zi 0] (rfl) rfl (rfl) ?_
      exact hR _ _ () trivial dX7_remaining_20
  · have h5 := of_decide_eq_true h5
    exfalso; first | contradiction | omega
theorem zin_X7_remaining_X7 : ∀ w ∈ wsX70, w ∈ wsX7_remaining := by decide +kernel
theorem zlk_X7_remaining_7 : Cond.fieldLink RX7 7 "HashedDirectoryModel" "s" "[I" ∈ wsX7_remaining := by decide +kernel
set_option maxHeartbeats 4000000 in
set_option maxRecDepth 100000 in
theorem zc_X7_remaining_0 (l : Launch) (D : va_G) (ct : zCT) (h0 : Nat) (aS : Nat) (aF : Nat) (aX : Nat) (th : Int) (sg : Int) (sv : Nat) (ln : Nat) (ta : Nat) (f1 : Nat) (l1 : Nat) (f2 : Nat) (l2 : Nat) (g : Nat → Int) (fz : Nat → Int) (tx : Nat → Nat) (cnt : Nat) (r : Nat) (hcn : g 0 = ((cnt : Nat) : Int)) (hc : cnt ≤ 40) (hg : ∀ k, k < 432 → -2 ≤ g k ∧ g k < 70000) (hr : r < 4) : zMet l yX7_remaining wsX7_remaining ({ frames := 3, cells := 0, slots := 0, locals := 65 } : Room) D ct [.ref h0, zi ((r : Nat) : Int)] [zO h0 6 [zi th, .ref aS, zi ((sv : Nat) : Int), .ref aF, .ref aX, zi ((ln : Nat) : Int), zi ((ta : Nat) : Int), zi sg, zi ((f1 : Nat) : Int), zi ((l1 : Nat) : Int), zi ((f2 : Nat) : Int), zi ((l2 : Nat) : Int)], zAI ct aS 3888 g, zAZ ct aF 2 fz, zAI ct aX 80 (zN tx)] (fun _ : Unit => True) (fun _ => some (zi ((if g (4 + r) = -2 then -2 else ((cnt - npF g r cnt : Nat) : Int))))) (fun _ => [zO h0 6 [zi 0, .ref aS, zi ((sv : Nat) : Int), .ref aF, .ref aX, zi ((ln : Nat) : Int), zi ((ta : Nat) : Int), zi sg, zi ((f1 : Nat) : Int), zi ((l1 : Nat) : Int), zi ((f2 : Nat) : Int), zi ((l2 : Nat) : Int)], zAI ct aS 3888 g, zAZ ct aF 2 fz, zAI ct aX 80 (zN tx)]) 0 0 := by
  refine zMet_i (cc := cX7_remaining) (maxL := 2) (r := fun _ => (if g (4 + r) = -2 then -2 else ((cnt - npF g r cnt : Nat) : Int))) (by decide) rfl (Nat.le_of_ble_eq_true rfl) ?_
  intro p e s m below meth c A Q Z hnm hR
  refine z_eqs _ [(0, .ref h0), (1, zi ((r : Nat) : Int))] _ rfl rfl rfl ?_
  refine z_aload_n Z dX7_remaining_0 0 rfl ?_
  refine z_iload_n Z dX7_remaining_1 1 rfl ?_
  refine z_callSu (rest := [.ref h0]) Z dX7_remaining_2 (zc_X7_isReader l D ct (((r : Nat) : Int)) (by first | assumption | omega)) (va_cwS 1 Z.1.2.2.2.2 gX7_remaining_X7_isReader rfl rfl rfl (by decide +kernel) ⟨Nat.le_of_ble_eq_true rfl, Nat.le_of_ble_eq_true rfl⟩) rfl (Nat.le_of_ble_eq_true rfl) ⟨Nat.le_of_ble_eq_true rfl, Nat.le_of_ble_eq_true rfl⟩ [false, false, false, false] [zO h0 6 [zi th, .ref aS, zi ((sv : Nat) : Int), .ref aF, .ref aX, zi ((ln : Nat) : Int), zi ((ta : Nat) : Int), zi sg, zi ((f1 : Nat) : Int), zi ((l1 : Nat) : Int), zi ((f2 : Nat) : Int), zi ((l2 : Nat) : Int)], zAI ct aS 3888 g, zAZ ct aF 2 fz, zAI ct aX 80 (zN tx)] [zi (zb (decide (0 ≤ ((r : Nat) : Int) ∧ ((r : Nat) : Int) ≤ 3))), .ref h0] rfl rfl rfl rfl ?_
  refine z_ifb_eq Z 12 dX7_remaining_5 (by decide) (fun h5 => ?_) (fun h5 => ?_)
  · have h5 := of_decide_eq_false h5
    exfalso; first | contradiction | omega
  · have h5 := of_decide_eq_true h5
    refine z_iconst (v := 0) Z dX7_remaining_8 rfl ?_
    refine z_goto Z 13 dX7_remaining_9 (by decide) ?_
    refine z_callVu (rest := []) Z dX7_remaining_13 6 0 _ _ rfl rfl rfl (zc_X7_holds l D ct (h0) (aS) (aF) (aX) (th) (sg) (sv) (ln) (ta) (f1) (l1) (f2) (l2) (0) (by first | assumption | omega)) (cwV 1 Z.1.2.2.2.2 gX7_remaining_X7_holds rfl rfl rfl (by decide +kernel) ⟨Nat.le_of_ble_eq_true rfl, Nat.le_of_ble_eq_true rfl⟩) rfl (Nat.le_of_ble_eq_true rfl) ⟨Nat.le_of_ble_eq_true rfl, Nat.le_of_ble_eq_true rfl⟩ [true, false, false, false] [zO h0 6 [zi 0, .ref aS, zi ((sv : Nat) : Int), .ref aF, .ref aX, zi ((ln : Nat) : Int), zi ((ta : Nat) : Int), zi sg, zi ((f1 : Nat) : Int), zi ((l1 : Nat) : Int), zi ((f2 : Nat) : Int), zi ((l2 : Nat) : Int)], zAI ct aS 3888 g, zAZ ct aF 2 fz, zAI ct aX 80 (zN tx)] [zi (zb (decide (0 = 0)))] rfl rfl rfl rfl ?_
    refine z_ifb_ne Z 21 dX7_remaining_16 (by decide) (fun h16 => ?_) (fun h16 => ?_)
    · have h16 := of_decide_eq_true h16
      refine z_aload_n Z dX7_remaining_21 0 rfl ?_
      refine z_iload_n Z dX7_remaining_22 1 rfl ?_
      refine z_callVu (rest := []) Z dX7_remaining_23 6 0 _ _ rfl rfl rfl (zc_X7_isOpen l D ct (h0) (aS) (aF) (aX) (0) (sg) (sv) (ln) (ta) (f1) (l1) (f2) (l2) (g) (((r : Nat) : Int)) (by first | assumption | omega) (by first | assumption | omega)) (cwV 1 Z.1.2.2.2.2 gX7_remaining_X7_isOpen rfl rfl rfl (by decide +kernel) ⟨Nat.le_of_ble_eq_true rfl, Nat.le_of_ble_eq_true rfl⟩) rfl (Nat.le_of_ble_eq_true rfl) ⟨Nat.le_of_ble_eq_true rfl, Nat.le_of_ble_eq_true rfl⟩ [true, true, false, false] [zO h0 6 [zi 0, .ref aS, zi ((sv : Nat) : Int), .ref aF, .ref aX, zi ((ln : Nat) : Int), zi ((ta : Nat) : Int), zi sg, zi ((f1 : Nat) : Int), zi ((l1 : Nat) : Int), zi ((f2 : Nat) : Int), zi ((l2 : Nat) : Int)], zAI ct aS 3888 g, zAZ ct aF 2 fz, zAI ct aX 80 (zN tx)] [zi (zb (decide ((0 ≤ ((r : Nat) : Int) ∧ ((r : Nat) : Int) ≤ 3) ∧ g (4 + ((r : Nat) : Int).toNat) ≠ -2)))] rfl rfl rfl rfl ?_
      refine z_ifb_eq Z 44 dX7_remaining_26 (by decide) (fun h26 => ?_) (fun h26 => ?_)
      · have h26 := of_decide_eq_false h26
        rw [Int.toNat_natCast] at h26
        refine z_bipush (v := -2) Z dX7_remaining_44 (by decide +kernel) ?_
        refine z_eqs [zO h0 6 [zi 0, .ref aS, zi ((sv : Nat) : Int), .ref aF, .ref aX, zi ((ln : Nat) : Int), zi ((ta : Nat) : Int), zi sg, zi ((f1 : Nat) : Int), zi ((l1 : Nat) : Int), zi ((f2 : Nat) : Int), zi ((l2 : Nat) : Int)], zAI ct aS 3888 g, zAZ ct aF 2 fz, zAI ct aX 80 (zN tx)] _ [zi (if g (4 + r) = -2 then -2 else ((cnt - npF g r cnt : Nat) : Int))] (rfl) rfl (congrArg (fun z => [zi z]) (by rw [if_pos (by omega)])) ?_
        exact hR _ _ () trivial dX7_remaining_46
      · have h26 := of_decide_eq_true h26
        rw [Int.toNat_natCast] at h26
        refine z_aload_n Z dX7_remaining_29 0 rfl ?_
        refine z_get Z dX7_remaining_30 zin_X7_remaining_X7 0 1 rfl rfl (by decide) zlk_X7_remaining_7 rfl ?_
        refine z_iconst (v := 0) Z dX7_remaining_33 rfl ?_
        refine z_iald Z dX7_remaining_34 1 (0) rfl (by omega) ⟨by omega, by omega⟩ ?_
        have he1 := hg (0) (by omega)
        refine z_top (y := ((cnt : Nat) : Int)) (hcn.symm) ?_
        refine z_aload_n Z dX7_remaining_35 0 rfl ?_
        refine z_iload_n Z dX7_remaining_36 1 rfl ?_
        refine z_callVu (rest := [zi ((cnt : Nat) : Int)]) Z dX7_remaining_37 6 0 _ _ rfl rfl rfl (zc_X7_nextPlace l D ct (h0) (aS) (aF) (aX) (0) (sg) (sv) (ln) (ta) (f1) (l1) (f2) (l2) (g) (cnt) (r) (by first | assumption | omega) (by first | assumption | omega) (by first | assumption | omega) (by first | assumption | omega)) (cwV 1 Z.1.2.2.2.2 gX7_remaining_X7_nextPlace rfl rfl rfl (by decide +kernel) ⟨Nat.le_of_ble_eq_true rfl, Nat.le_of_ble_eq_true rfl⟩) rfl (Nat.le_of_ble_eq_true rfl) ⟨Nat.le_of_ble_eq_true rfl, Nat.le_of_ble_eq_true rfl⟩ [true, true, false, false] [zO h0 6 [zi 0, .ref aS, zi ((sv : Nat) : Int), .ref aF, .ref aX, zi ((ln : Nat) : Int), zi ((ta : Nat) : Int), zi sg, zi ((f1 : Nat) : Int), zi ((l1 : Nat) : Int), zi ((f2 : Nat) : Int), zi ((l2 : Nat) : Int)], zAI ct aS 3888 g, zAZ ct aF 2 fz, zAI ct aX 80 (zN tx)] [zi ((npF g r cnt : Nat) : Int), zi ((cnt : Nat) : Int)] rfl rfl rfl rfl ?_
        have hp9 : npF g r cnt ≤ cnt := fiF_le _ _
        refine z_isub Z dX7_remaining_40 ?_
        refine z_top (y := ((cnt - (npF g r cnt) : Nat) : Int)) (by omega) ?_
        refine z_goto Z 46 dX7_remaining_41 (by decide) ?_
        refine z_eqs [zO h0 6 [zi 0, .ref aS, zi ((sv : Nat) : Int), .ref aF, .ref aX, zi ((ln : Nat) : Int), zi ((ta : Nat) : Int), zi sg, zi ((f1 : Nat) : Int), zi ((l1 : Nat) : Int), zi ((f2 : Nat) : Int), zi ((l2 : Nat) : Int)], zAI ct aS 3888 g, zAZ ct aF 2 fz, zAI ct aX 80 (zN tx)] _ [zi (if g (4 + r) = -2 then -2 else ((cnt - npF g r cnt : Nat) : Int))] (rfl) rfl (congrArg (fun z => [zi z]) (by rw [if_neg (by omega)])) ?_
        exact hR _ _ () trivial dX7_remaining_46
    · have h16 := of_decide_eq_false h16
      exfalso; first | contradiction | omega
theorem zin_X7_savedStates_X7 : ∀ w ∈ wsX70, w ∈ wsX7_savedStates := by decide +kernel
theorem zlk_X7_savedStates_20 : Cond.fieldLink RX7 20 "HashedDirectoryModel" "thrown" "I" ∈ wsX7_savedStates := by decide +kernel
theorem zlk_X7_savedStates_58 : Cond.fieldLink RX7 58 "HashedDirectoryModel" "saved" "I" ∈ wsX7_savedStates := by decide +kernel
set_option maxHeartbeats 4000000 in
set_option maxRecDepth 100000 in
theorem zc_X7_savedStates_0 (l : Launch) (D : va_G) (ct : zCT) (h0 : Nat) (aS : Nat) (aF : Nat) (aX : Nat) (th : Int) (sg : Int) (sv : Nat) (ln : Nat) (ta : Nat) (f1 : Nat) (l1 : Nat) (f2 : Nat) (l2 : Nat) (g : Nat → Int) (fz : Nat → Int) (tx : Nat → Nat)  : zMet l yX7_savedStates wsX7_savedStates ({ frames := 0, cells := 0, slots := 0, locals := 0 } : Room) D ct [.ref h0] [zO h0 6 [zi th, .ref aS, zi ((sv : Nat) : Int), .ref aF, .ref aX, zi ((ln : Nat) : Int), zi ((ta : Nat) : Int), zi sg, zi ((f1 : Nat) : Int), zi ((l1 : Nat) : Int), zi ((f2 : Nat) : Int), zi ((l2 : Nat) : Int)], zAI ct aS 3888 g, zAZ ct aF 2 fz, zAI ct aX 80 (zN tx)] (fun _ : Unit => True) (fun _ => some (zi (((sv : Nat) : Int)))) (fun _ => [zO h0 6 [zi 0, .ref aS, zi ((sv : Nat) : Int), .ref aF, .ref aX, zi ((ln : Nat) : Int), zi ((ta : Nat) : Int), zi sg, zi ((f1 : Nat) : Int), zi ((l1 : Nat) : Int), zi ((f2 : Nat) : Int), zi ((l2 : Nat) : Int)], zAI ct aS 3888 g, zAZ ct aF 2 fz, zAI ct aX 80 (zN tx)]) 0 0 := by
  refine zMet_i (cc := cX7_savedStates) (maxL := 1) (r := fun _ => ((sv : Nat) : Int)) (by decide) rfl (Nat.le_of_ble_eq_true rfl) ?_
  intro p e s m below meth c A Q Z hnm hR
  refine z_eqs _ [(0, .ref h0)] _ rfl rfl rfl ?_
  refine z_aload_n Z dX7_savedStates_0 0 rfl ?_
  refine z_iconst (v := 0) Z dX7_savedStates_1 rfl ?_
  refine z_put (ty := .int) Z dX7_savedStates_2 zin_X7_savedStates_X7 tyX7 tyX7_ok nmX7 0 0 [zO h0 6 [zi 0, .ref aS, zi ((sv : Nat) : Int), .ref aF, .ref aX, zi ((ln : Nat) : Int), zi ((ta : Nat) : Int), zi sg, zi ((f1 : Nat) : Int), zi ((l1 : Nat) : Int), zi ((f2 : Nat) : Int), zi ((l2 : Nat) : Int)], zAI ct aS 3888 g, zAZ ct aF 2 fz, zAI ct aX 80 (zN tx)] rfl rfl (by decide) zlk_X7_savedStates_20 rfl (by decide +kernel) rfl rfl (Nat.le_of_ble_eq_true rfl) rfl ?_
  refine z_aload_n Z dX7_savedStates_5 0 rfl ?_
  refine z_get Z dX7_savedStates_6 zin_X7_savedStates_X7 0 2 rfl rfl (by decide) zlk_X7_savedStates_58 rfl ?_
  refine z_eqs [zO h0 6 [zi 0, .ref aS, zi ((sv : Nat) : Int), .ref aF, .ref aX, zi ((ln : Nat) : Int), zi ((ta : Nat) : Int), zi sg, zi ((f1 : Nat) : Int), zi ((l1 : Nat) : Int), zi ((f2 : Nat) : Int), zi ((l2 : Nat) : Int)], zAI ct aS 3888 g, zAZ ct aF 2 fz, zAI ct aX 80 (zN tx)] _ [zi ((sv : Nat) : Int)] (rfl) rfl (rfl) ?_
  exact hR _ _ () trivial dX7_savedStates_9
theorem zin_X7_textLength_X7 : ∀ w ∈ wsX70, w ∈ wsX7_textLength := by decide +kernel
theorem zlk_X7_textLength_20 : Cond.fieldLink RX7 20 "HashedDirectoryModel" "thrown" "I" ∈ wsX7_textLength := by decide +kernel
theorem zlk_X7_textLength_65 : Cond.fieldLink RX7 65 "HashedDirectoryModel" "length" "I" ∈ wsX7_textLength := by decide +kernel
set_option maxHeartbeats 4000000 in
set_option maxRecDepth 100000 in
theorem zc_X7_textLength_0 (l : Launch) (D : va_G) (ct : zCT) (h0 : Nat) (aS : Nat) (aF : Nat) (aX : Nat) (th : Int) (sg : Int) (sv : Nat) (ln : Nat) (ta : Nat) (f1 : Nat) (l1 : Nat) (f2 : Nat) (l2 : Nat) (g : Nat → Int) (fz : Nat → Int) (tx : Nat → Nat)  : zMet l yX7_textLength wsX7_textLength ({ frames := 0, cells := 0, slots := 0, locals := 0 } : Room) D ct [.ref h0] [zO h0 6 [zi th, .ref aS, zi ((sv : Nat) : Int), .ref aF, .ref aX, zi ((ln : Nat) : Int), zi ((ta : Nat) : Int), zi sg, zi ((f1 : Nat) : Int), zi ((l1 : Nat) : Int), zi ((f2 : Nat) : Int), zi ((l2 : Nat) : Int)], zAI ct aS 3888 g, zAZ ct aF 2 fz, zAI ct aX 80 (zN tx)] (fun _ : Unit => True) (fun _ => some (zi (((ln : Nat) : Int)))) (fun _ => [zO h0 6 [zi 0, .ref aS, zi ((sv : Nat) : Int), .ref aF, .ref aX, zi ((ln : Nat) : Int), zi ((ta : Nat) : Int), zi sg, zi ((f1 : Nat) : Int), zi ((l1 : Nat) : Int), zi ((f2 : Nat) : Int), zi ((l2 : Nat) : Int)], zAI ct aS 3888 g, zAZ ct aF 2 fz, zAI ct aX 80 (zN tx)]) 0 0 := by
  refine zMet_i (cc := cX7_textLength) (maxL := 1) (r := fun _ => ((ln : Nat) : Int)) (by decide) rfl (Nat.le_of_ble_eq_true rfl) ?_
  intro p e s m below meth c A Q Z hnm hR
  refine z_eqs _ [(0, .ref h0)] _ rfl rfl rfl ?_
  refine z_aload_n Z dX7_textLength_0 0 rfl ?_
  refine z_iconst (v := 0) Z dX7_textLength_1 rfl ?_
  refine z_put (ty := .int) Z dX7_textLength_2 zin_X7_textLength_X7 tyX7 tyX7_ok nmX7 0 0 [zO h0 6 [zi 0, .ref aS, zi ((sv : Nat) : Int), .ref aF, .ref aX, zi ((ln : Nat) : Int), zi ((ta : Nat) : Int), zi sg, zi ((f1 : Nat) : Int), zi ((l1 : Nat) : Int), zi ((f2 : Nat) : Int), zi ((l2 : Nat) : Int)], zAI ct aS 3888 g, zAZ ct aF 2 fz, zAI ct aX 80 (zN tx)] rfl rfl (by decide) zlk_X7_textLength_20 rfl (by decide +kernel) rfl rfl (Nat.le_of_ble_eq_true rfl) rfl ?_
  refine z_aload_n Z dX7_textLength_5 0 rfl ?_
  refine z_get Z dX7_textLength_6 zin_X7_textLength_X7 0 5 rfl rfl (by decide) zlk_X7_textLength_65 rfl ?_
  refine z_eqs [zO h0 6 [zi 0, .ref aS, zi ((sv : Nat) : Int), .ref aF, .ref aX, zi ((ln : Nat) : Int), zi ((ta : Nat) : Int), zi sg, zi ((f1 : Nat) : Int), zi ((l1 : Nat) : Int), zi ((f2 : Nat) : Int), zi ((l2 : Nat) : Int)], zAI ct aS 3888 g, zAZ ct aF 2 fz, zAI ct aX 80 (zN tx)] _ [zi ((ln : Nat) : Int)] (rfl) rfl (rfl) ?_
  exact hR _ _ () trivial dX7_textLength_9
theorem zin_X7_thrown_X7 : ∀ w ∈ wsX70, w ∈ wsX7_thrown := by decide +kernel
theorem zlk_X7_thrown_20 : Cond.fieldLink RX7 20 "HashedDirectoryModel" "thrown" "I" ∈ wsX7_thrown := by decide +kernel
set_option maxHeartbeats 4000000 in
set_option maxRecDepth 100000 in
theorem zc_X7_thrown (l : Launch) (D : va_G) (ct : zCT) (h0 : Nat) (aS : Nat) (aF : Nat) (aX : Nat) (th : Int) (sg : Int) (sv : Nat) (ln : Nat) (ta : Nat) (f1 : Nat) (l1 : Nat) (f2 : Nat) (l2 : Nat)  : zMet l yX7_thrown wsX7_thrown ({ frames := 0, cells := 0, slots := 0, locals := 0 } : Room) D ct [.ref h0] [zO h0 6 [zi th, .ref aS, zi ((sv : Nat) : Int), .ref aF, .ref aX, zi ((ln : Nat) : Int), zi ((ta : Nat) : Int), zi sg, zi ((f1 : Nat) : Int), zi ((l1 : Nat) : Int), zi ((f2 : Nat) : Int), zi ((l2 : Nat) : Int)]] (fun _ : Unit => True) (fun _ => some (zi (th))) (fun _ => [zO h0 6 [zi th, .ref aS, zi ((sv : Nat) : Int), .ref aF, .ref aX, zi ((ln : Nat) : Int), zi ((ta : Nat) : Int), zi sg, zi ((f1 : Nat) : Int), zi ((l1 : Nat) : Int), zi ((f2 : Nat) : Int), zi ((l2 : Nat) : Int)]]) 0 0 := by
  refine zMet_i (cc := cX7_thrown) (maxL := 1) (r := fun _ => th) (by decide) rfl (Nat.le_of_ble_eq_true rfl) ?_
  intro p e s m below meth c A Q Z hnm hR
  refine z_eqs _ [(0, .ref h0)] _ rfl rfl rfl ?_
  refine z_aload_n Z dX7_thrown_0 0 rfl ?_
  refine z_get Z dX7_thrown_1 zin_X7_thrown_X7 0 0 rfl rfl (by decide) zlk_X7_thrown_20 rfl ?_
  refine z_eqs [zO h0 6 [zi th, .ref aS, zi ((sv : Nat) : Int), .ref aF, .ref aX, zi ((ln : Nat) : Int), zi ((ta : Nat) : Int), zi sg, zi ((f1 : Nat) : Int), zi ((l1 : Nat) : Int), zi ((f2 : Nat) : Int), zi ((l2 : Nat) : Int)]] _ [zi th] (rfl) rfl (rfl) ?_
  exact hR _ _ () trivial dX7_thrown_4
