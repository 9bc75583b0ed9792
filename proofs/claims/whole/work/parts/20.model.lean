/-! plain numbers for the reference -/
def fo2 (p : Nat → Bool) (n : Nat) : Int := if fiF p n < n then ((fiF p n : Nat) : Int) else (-2)
theorem fo2_yes {p : Nat → Bool} {n k : Nat} (h1 : k < n) (h2 : ∀ j, j < k → p j = false) (h3 : p k = true) : ((k : Nat) : Int) = fo2 p n := by
  have := fiF_eq (Nat.le_of_lt h1) h2 (fun _ => h3)
  unfold fo2
  rw [this, if_pos h1]
theorem fo2_no {p : Nat → Bool} {n : Nat} (h2 : ∀ j, j < n → p j = false) : (-2 : Int) = fo2 p n := by
  have := fiF_eq (Nat.le_refl n) h2 (fun h => absurd h (Nat.lt_irrefl n))
  unfold fo2
  rw [this, if_neg (Nat.lt_irrefl n)]
theorem fo2_rg (p : Nat → Bool) (n : Nat) : -2 ≤ fo2 p n ∧ fo2 p n ≤ (n : Int) := by
  have := fiF_le p n
  unfold fo2
  split <;> omega
/-- what the place k of the reference's row holds: 0 the id, 1 the hash, 2 the length, 3.. the letters -/
def mI (g : Nat → Int) (k w : Nat) : Int := g (72 + 9 * k + w)
def mK (g : Nat → Int) (k : Nat) : Int := 1000 * mI g k 1 + mI g k 0
theorem mI_rg {g : Nat → Int} {k w : Nat} (hg : ∀ k, k < 432 → -2 ≤ g k ∧ g k < 70000) (hk : k < 40) (hw : w < 9) : -2 ≤ mI g k w ∧ mI g k w < 70000 := hg _ (by omega)
def mP (g : Nat → Int) (id : Int) : Nat → Bool := fun k => decide (mI g k 0 = id)
def mN (g : Nat → Int) (tx : Nat → Nat) (a z : Nat) : Nat → Bool := fun k => decide (mI g k 2 = ((z : Nat) : Int) ∧ ∀ r, r < z → mI g k (3 + r) = ((tx (a + r) : Nat) : Int))
theorem mN_f {g : Nat → Int} {tx : Nat → Nat} {a z i q : Nat} (h : decide (mI g i 2 = ((z : Nat) : Int) ∧ ∀ r, r < q → mI g i (3 + r) = ((tx (a + r) : Nat) : Int)) = false) (hq : q ≤ z) : mN g tx a z i = false :=
  decide_eq_false (fun w => of_decide_eq_false h ⟨w.1, fun r hr => w.2 r (by omega)⟩)
theorem mN_t {g : Nat → Int} {tx : Nat → Nat} {a z i q : Nat} (h : decide (mI g i 2 = ((z : Nat) : Int) ∧ ∀ r, r < q → mI g i (3 + r) = ((tx (a + r) : Nat) : Int)) = true) (hq : q = z) : mN g tx a z i = true := by
  subst hq
  exact decide_eq_true (of_decide_eq_true h)
def hhF (tx : Nat → Nat) (a : Nat) : Nat → Nat
  | 0 => 7
  | k + 1 => (5 * hhF tx a k + (tx (a + k) - 96)) % 64
theorem hhF_lt (tx : Nat → Nat) (a : Nat) : ∀ k, hhF tx a k < 64
  | 0 => (by decide : (7 : Nat) < 64)
  | k + 1 => Nat.mod_lt _ (by decide)
def qF (n k : Nat) : Nat := n / 2 ^ k
def ndF (h d : Nat) : Nat := 2 ^ d + h / 2 ^ (6 - d)
def nsF (n : Nat) : Nat := if n % 2 = 0 then n + 1 else n - 1
theorem ndF_0 {h : Nat} (hh : h < 64) : ndF h 0 = 1 := by
  unfold ndF
  rw [Nat.div_eq_of_lt (by omega)]
theorem ndF_lt {h d : Nat} (hh : h < 64) (hd : d < 7) : ndF h d < 128 := by
  have : ∀ h, h < 64 → ∀ d, d < 7 → ndF h d < 128 := by decide +kernel
  exact this h hh d hd
theorem ndF_lt5 {h d : Nat} (hh : h < 64) (hd : d < 6) : ndF h d < 64 := by
  have : ∀ h, h < 64 → ∀ d, d < 6 → ndF h d < 64 := by decide +kernel
  exact this h hh d hd
theorem ndF_pos (h d : Nat) : 0 < ndF h d := by
  have : 0 < 2 ^ d := Nat.pow_pos (by decide)
  exact Nat.lt_of_lt_of_le this (Nat.le_add_right _ _)
theorem ndF_2 {h d : Nat} (hd : 0 < d) : 2 ≤ ndF h d := by
  obtain ⟨k, rfl⟩ : ∃ k, d = k + 1 := ⟨d - 1, by omega⟩
  have : 0 < 2 ^ k := Nat.pow_pos (by decide)
  have h2 : 2 ≤ 2 ^ (k + 1) := by rw [Nat.pow_succ]; omega
  exact Nat.le_trans h2 (Nat.le_add_right _ _)
theorem zq_1shl {d : Nat} (h : d < 7) : zI 1 <<< (zI ((d : Nat) : Int) &&& 31) = zI ((2 ^ d : Nat) : Int) := by
  have : ∀ d, d < 7 → zI 1 <<< (zI ((d : Nat) : Int) &&& 31) = zI ((2 ^ d : Nat) : Int) := by decide +kernel
  exact this d h
theorem zq_shrI {z : Int} {sh : Nat} (h0 : 0 ≤ z) (h1 : z < 2147483648) (h : sh < 32) : zI z >>> (zI ((sh : Nat) : Int) &&& 31) = zI ((z.toNat / 2 ^ sh : Nat) : Int) := by
  obtain ⟨n, rfl⟩ : ∃ n : Nat, z = (n : Int) := ⟨z.toNat, by omega⟩
  rw [Int.toNat_natCast]
  exact zq_shr (by omega) h
/-- the depth of a leaf, by the flags -/
def dpF (g : Nat → Int) (h : Nat) : Nat → Nat → Nat
  | 0, d => d
  | k + 1, d => if g (8 + ndF h d) = 1 then dpF g h k (d + 1) else d
theorem dpF_le (g : Nat → Int) (h : Nat) : ∀ k d, d ≤ dpF g h k d ∧ dpF g h k d ≤ d + k
  | 0, d => ⟨Nat.le_refl d, Nat.le_refl d⟩
  | k + 1, d => by
    have := dpF_le g h k (d + 1)
    unfold dpF
    split <;> omega
theorem dpF_stop {g : Nat → Int} {h k d : Nat} (hb : g (8 + ndF h d) ≠ 1) : dpF g h k d = d := by
  cases k with
  | zero => rfl
  | succ k => unfold dpF; rw [if_neg hb]
theorem dpF_next {g : Nat → Int} {h d : Nat} (hd : d < 6) (hb : g (8 + ndF h d) = 1) : dpF g h (6 - d) d = dpF g h (6 - (d + 1)) (d + 1) := by
  obtain ⟨k, hk⟩ : ∃ k, 6 - d = k + 1 := ⟨5 - d, by omega⟩
  rw [hk, show 6 - (d + 1) = k by omega]
  show (if g (8 + ndF h d) = 1 then dpF g h k (d + 1) else d) = _
  rw [if_pos hb]
/-- entries whose hashes begin alike -/
def bgF (g : Nat → Int) (h b : Nat) : Nat → Nat
  | 0 => 0
  | n + 1 => bgF g h b n + if qF (mI g n 1).toNat (6 - b) = qF h (6 - b) then 1 else 0
theorem bgF_le (g : Nat → Int) (h b : Nat) : ∀ n, bgF g h b n ≤ n
  | 0 => Nat.le_refl 0
  | n + 1 => by
    have := bgF_le g h b n
    unfold bgF
    split <;> omega
def msF (h cnt : Nat) : Nat → Nat → (Nat → Int) → Nat → Int
  | 0, _, g => g
  | k + 1, d, g => if 4 < bgF g h d cnt then msF h cnt k (d + 1) (zU (zU g (8 + ndF h d) 1) 2 (g 2 + 1)) else g
theorem msF_stop {h cnt k d : Nat} {g : Nat → Int} (hb : bgF g h d cnt ≤ 4) : msF h cnt k d g = g := by
  cases k with
  | zero => rfl
  | succ k => unfold msF; rw [if_neg (by omega)]
theorem msF_next {h cnt d : Nat} {g : Nat → Int} (hd : d < 6) (hb : 4 < bgF g h d cnt) : msF h cnt (6 - d) d g = msF h cnt (6 - (d + 1)) (d + 1) (zU (zU g (8 + ndF h d) 1) 2 (g 2 + 1)) := by
  obtain ⟨k, hk⟩ : ∃ k, 6 - d = k + 1 := ⟨5 - d, by omega⟩
  rw [hk, show 6 - (d + 1) = k by omega]
  show (if 4 < bgF g h d cnt then msF h cnt k (d + 1) (zU (zU g (8 + ndF h d) 1) 2 (g 2 + 1)) else g) = _
  rw [if_pos hb]
def mgM (h cnt : Nat) : Nat → (Nat → Int) → Nat → Int
  | 0, g => g
  | d + 1, g => if bgF g h d cnt ≤ 2 ∧ (d + 1 = 6 ∨ g (8 + nsF (ndF h (d + 1))) = 0) then mgM h cnt d (zU (zU g (8 + ndF h d) 0) 3 (g 3 + 1)) else g
theorem mgM_stop1 {h cnt d : Nat} {g : Nat → Int} (hd : 0 < d) (hb : 2 < bgF g h (d - 1) cnt) : mgM h cnt d g = g := by
  obtain ⟨k, rfl⟩ : ∃ k, d = k + 1 := ⟨d - 1, by omega⟩
  have hb : 2 < bgF g h k cnt := hb
  unfold mgM
  rw [if_neg (fun z => by omega)]
theorem mgM_stop2 {h cnt d : Nat} {g : Nat → Int} (hd : 0 < d) (hb : ¬ (d = 6 ∨ g (8 + nsF (ndF h d)) = 0)) : mgM h cnt d g = g := by
  obtain ⟨k, rfl⟩ : ∃ k, d = k + 1 := ⟨d - 1, by omega⟩
  unfold mgM
  rw [if_neg (fun z => hb z.2)]
theorem mgM_next {h cnt d : Nat} {g : Nat → Int} (hd : 0 < d) (h1 : bgF g h (d - 1) cnt ≤ 2) (h2 : d = 6 ∨ g (8 + nsF (ndF h d)) = 0) : mgM h cnt d g = mgM h cnt (d - 1) (zU (zU g (8 + ndF h (d - 1)) 0) 3 (g 3 + 1)) := by
  obtain ⟨k, rfl⟩ : ∃ k, d = k + 1 := ⟨d - 1, by omega⟩
  have h1 : bgF g h k cnt ≤ 2 := h1
  show (if bgF g h k cnt ≤ 2 ∧ (k + 1 = 6 ∨ g (8 + nsF (ndF h (k + 1))) = 0) then mgM h cnt k (zU (zU g (8 + ndF h k) 0) 3 (g 3 + 1)) else g) = _
  rw [if_pos ⟨h1, h2⟩]
  rfl
theorem zU2_rg {g : Nat → Int} {a b : Nat} {v w : Int} (hg : ∀ k, k < 432 → -2 ≤ g k ∧ g k < 70000) (hv : -2 ≤ v ∧ v < 70000) (hw : -2 ≤ w ∧ w < 70000) : ∀ k, k < 432 → -2 ≤ zU (zU g a v) b w k ∧ zU (zU g a v) b w k < 70000 := by
  intro k hk
  unfold zU
  split
  · exact hw
  · split
    · exact hv
    · exact hg k hk
theorem zU2_hs {g : Nat → Int} {a b : Nat} {v w : Int} (hg : ∀ k, k < 40 → 0 ≤ mI g k 1 ∧ mI g k 1 < 64) (ha : a < 72) (hb : b < 72) : ∀ k, k < 40 → 0 ≤ mI (zU (zU g a v) b w) k 1 ∧ mI (zU (zU g a v) b w) k 1 < 64 := by
  intro k hk
  unfold mI
  rw [zU_n _ _ (by omega), zU_n _ _ (by omega)]
  exact hg k hk
set_option maxHeartbeats 4000000 in
set_option maxRecDepth 100000 in
theorem zc_X7_in (l : Launch) (D : va_G) (ct : zCT) (v : Int) (lo : Int) (hi : Int) (hv : -2147483648 ≤ v ∧ v < 2147483648) (h1 : -2147483648 ≤ lo ∧ lo < 2147483648) (h2 : -2147483648 ≤ hi ∧ hi < 2147483648) : zMet l yX7_in wsX7_in ({ frames := 0, cells := 0, slots := 0, locals := 0 } : Room) D ct [zi v, zi lo, zi hi] [] (fun _ : Unit => True) (fun _ => some (zi (zb (decide (lo ≤ v ∧ v ≤ hi))))) (fun _ => []) 0 0 := by
  refine zMet_z (cc := cX7_in) (maxL := 3) (r := fun _ => zb (decide (lo ≤ v ∧ v ≤ hi))) (by decide) rfl (Nat.le_of_ble_eq_true rfl) (fun _ _ => zb_n _) ?_
  intro p e s m below meth c A Q Z hnm hR
  refine z_eqs _ [(0, zi v), (1, zi lo), (2, zi hi)] _ rfl rfl rfl ?_
  refine z_iload_n Z dX7_in_0 0 rfl ?_
  refine z_iload_n Z dX7_in_1 1 rfl ?_
  refine z_icmp_lt Z 14 dX7_in_2 (by decide) (by omega) (by omega) (fun h2 => ?_) (fun h2 => ?_)
  · refine z_iconst (v := 0) Z dX7_in_14 rfl ?_
    refine z_eqs [] _ [zi (zb (decide (lo ≤ v ∧ v ≤ hi)))] (rfl) rfl (congrArg (fun z => [zi z]) (zb_np _ (by omega))) ?_
    exact hR _ _ () trivial dX7_in_15
  · refine z_iload_n Z dX7_in_5 0 rfl ?_
    refine z_iload_n Z dX7_in_6 2 rfl ?_
    refine z_icmp_gt Z 14 dX7_in_7 (by decide) (by omega) (by omega) (fun h7 => ?_) (fun h7 => ?_)
    · refine z_iconst (v := 0) Z dX7_in_14 rfl ?_
      refine z_eqs [] _ [zi (zb (decide (lo ≤ v ∧ v ≤ hi)))] (rfl) rfl (congrArg (fun z => [zi z]) (zb_np _ (by omega))) ?_
      exact hR _ _ () trivial dX7_in_15
    · refine z_iconst (v := 1) Z dX7_in_10 rfl ?_
      refine z_goto Z 15 dX7_in_11 (by decide) ?_
      refine z_eqs [] _ [zi (zb (decide (lo ≤ v ∧ v ≤ hi)))] (rfl) rfl (congrArg (fun z => [zi z]) (zb_p _ (by omega))) ?_
      exact hR _ _ () trivial dX7_in_15
theorem zin_X7_holds_X7 : ∀ w ∈ wsX70, w ∈ wsX7_holds := by decide +kernel
theorem zlk_X7_holds_20 : Cond.fieldLink RX7 20 "HashedDirectoryModel" "thrown" "I" ∈ wsX7_holds := by decide +kernel
set_option maxHeartbeats 4000000 in
set_option maxRecDepth 100000 in
theorem zc_X7_holds (l : Launch) (D : va_G) (ct : zCT) (h0 : Nat) (aS : Nat) (aF : Nat) (aX : Nat) (th : Int) (sg : Int) (sv : Nat) (ln : Nat) (ta : Nat) (f1 : Nat) (l1 : Nat) (f2 : Nat) (l2 : Nat) (pl : Int) (hp : -2147483648 ≤ pl ∧ pl < 2147483648) : zMet l yX7_holds wsX7_holds ({ frames := 0, cells := 0, slots := 0, locals := 0 } : Room) D ct [.ref h0, zi pl] [zO h0 6 [zi th, .ref aS, zi ((sv : Nat) : Int), .ref aF, .ref aX, zi ((ln : Nat) : Int), zi ((ta : Nat) : Int), zi sg, zi ((f1 : Nat) : Int), zi ((l1 : Nat) : Int), zi ((f2 : Nat) : Int), zi ((l2 : Nat) : Int)]] (fun _ : Unit => True) (fun _ => some (zi (zb (decide (pl = 0))))) (fun _ => [zO h0 6 [zi pl, .ref aS, zi ((sv : Nat) : Int), .ref aF, .ref aX, zi ((ln : Nat) : Int), zi ((ta : Nat) : Int), zi sg, zi ((f1 : Nat) : Int), zi ((l1 : Nat) : Int), zi ((f2 : Nat) : Int), zi ((l2 : Nat) : Int)]]) 0 0 := by
  refine zMet_z (cc := cX7_holds) (maxL := 2) (r := fun _ => zb (decide (pl = 0))) (by decide) rfl (Nat.le_of_ble_eq_true rfl) (fun _ _ => zb_n _) ?_
  intro p e s m below meth c A Q Z hnm hR
  refine z_eqs _ [(0, .ref h0), (1, zi pl)] _ rfl rfl rfl ?_
  refine z_aload_n Z dX7_holds_0 0 rfl ?_
  refine z_iload_n Z dX7_holds_1 1 rfl ?_
  refine z_put (ty := .int) Z dX7_holds_2 zin_X7_holds_X7 tyX7 tyX7_ok nmX7 0 0 [zO h0 6 [zi pl, .ref aS, zi ((sv : Nat) : Int), .ref aF, .ref aX, zi ((ln : Nat) : Int), zi ((ta : Nat) : Int), zi sg, zi ((f1 : Nat) : Int), zi ((l1 : Nat) : Int), zi ((f2 : Nat) : Int), zi ((l2 : Nat) : Int)]] rfl rfl (by decide) zlk_X7_holds_20 rfl (by decide +kernel) rfl rfl (Nat.le_of_ble_eq_true rfl) rfl ?_
  refine z_iload_n Z dX7_holds_5 1 rfl ?_
  refine z_if_ne Z 13 dX7_holds_6 (by decide) (by omega) (fun h6 => ?_) (fun h6 => ?_)
  · refine z_iconst (v := 0) Z dX7_holds_13 rfl ?_
    refine z_eqs [zO h0 6 [zi pl, .ref aS, zi ((sv : Nat) : Int), .ref aF, .ref aX, zi ((ln : Nat) : Int), zi ((ta : Nat) : Int), zi sg, zi ((f1 : Nat) : Int), zi ((l1 : Nat) : Int), zi ((f2 : Nat) : Int), zi ((l2 : Nat) : Int)]] _ [zi (zb (decide (pl = 0)))] (rfl) rfl (congrArg (fun z => [zi z]) (zb_np _ (by omega))) ?_
    exact hR _ _ () trivial dX7_holds_14
  · refine z_iconst (v := 1) Z dX7_holds_9 rfl ?_
    refine z_goto Z 14 dX7_holds_10 (by decide) ?_
    refine z_eqs [zO h0 6 [zi pl, .ref aS, zi ((sv : Nat) : Int), .ref aF, .ref aX, zi ((ln : Nat) : Int), zi ((ta : Nat) : Int), zi sg, zi ((f1 : Nat) : Int), zi ((l1 : Nat) : Int), zi ((f2 : Nat) : Int), zi ((l2 : Nat) : Int)]] _ [zi (zb (decide (pl = 0)))] (rfl) rfl (congrArg (fun z => [zi z]) (zb_p _ (by omega))) ?_
    exact hR _ _ () trivial dX7_holds_14
theorem zin_X7_of_X7 : ∀ w ∈ wsX70, w ∈ wsX7_of := by decide +kernel
theorem zlk_X7_of_7 : Cond.fieldLink RX7 7 "HashedDirectoryModel" "s" "[I" ∈ wsX7_of := by decide +kernel
set_option maxHeartbeats 4000000 in
set_option maxRecDepth 100000 in
theorem zc_X7_of (l : Launch) (D : va_G) (ct : zCT) (h0 : Nat) (aS : Nat) (aF : Nat) (aX : Nat) (th : Int) (sg : Int) (sv : Nat) (ln : Nat) (ta : Nat) (f1 : Nat) (l1 : Nat) (f2 : Nat) (l2 : Nat) (g : Nat → Int) (k : Nat) (w : Nat) (hk9 : k < 40) (hw9 : w < 9) : zMet l yX7_of wsX7_of ({ frames := 0, cells := 0, slots := 0, locals := 0 } : Room) D ct [.ref h0, zi ((k : Nat) : Int), zi ((w : Nat) : Int)] [zO h0 6 [zi th, .ref aS, zi ((sv : Nat) : Int), .ref aF, .ref aX, zi ((ln : Nat) : Int), zi ((ta : Nat) : Int), zi sg, zi ((f1 : Nat) : Int), zi ((l1 : Nat) : Int), zi ((f2 : Nat) : Int), zi ((l2 : Nat) : Int)], zAI ct aS 3888 g] (fun _ : Unit => True) (fun _ => some (zi ((mI g k w)))) (fun _ => [zO h0 6 [zi th, .ref aS, zi ((sv : Nat) : Int), .ref aF, .ref aX, zi ((ln : Nat) : Int), zi ((ta : Nat) : Int), zi sg, zi ((f1 : Nat) : Int), zi ((l1 : Nat) : Int), zi ((f2 : Nat) : Int), zi ((l2 : Nat) : Int)], zAI ct aS 3888 g]) 0 0 := by
  refine zMet_i (cc := cX7_of) (maxL := 3) (r := fun _ => (mI g k w)) (by decide) rfl (Nat.le_of_ble_eq_true rfl) ?_
  intro p e s m below meth c A Q Z hnm hR
  refine z_eqs _ [(0, .ref h0), (1, zi ((k : Nat) : Int)), (2, zi ((w : Nat) : Int))] _ rfl rfl rfl ?_
  refine z_aload_n Z dX7_of_0 0 rfl ?_
  refine z_get Z dX7_of_1 zin_X7_of_X7 0 1 rfl rfl (by decide) zlk_X7_of_7 rfl ?_
  refine z_bipush (v := 72) Z dX7_of_4 (by decide +kernel) ?_
  refine z_bipush (v := 9) Z dX7_of_6 (by decide +kernel) ?_
  refine z_iload_n Z dX7_of_8 1 rfl ?_
  refine z_imul Z dX7_of_9 ?_
  refine z_top (y := ((9 * k : Nat) : Int)) (by omega) ?_
  refine z_iadd Z dX7_of_10 ?_
  refine z_top (y := ((72 + (9 * k) : Nat) : Int)) (by omega) ?_
  refine z_iload_n Z dX7_of_11 2 rfl ?_
  refine z_iadd Z dX7_of_12 ?_
  refine z_top (y := (((72 + (9 * k)) + w : Nat) : Int)) (by omega) ?_
  refine z_iald Z dX7_of_13 1 ((72 + (9 * k)) + w) rfl (rfl) ⟨by omega, by omega⟩ ?_
  refine z_eqs [zO h0 6 [zi th, .ref aS, zi ((sv : Nat) : Int), .ref aF, .ref aX, zi ((ln : Nat) : Int), zi ((ta : Nat) : Int), zi sg, zi ((f1 : Nat) : Int), zi ((l1 : Nat) : Int), zi ((f2 : Nat) : Int), zi ((l2 : Nat) : Int)], zAI ct aS 3888 g] _ [zi (mI g k w)] (rfl) rfl (congrArg (fun z => [zi z]) (rfl)) ?_
  exact hR _ _ () trivial dX7_of_14
set_option maxHeartbeats 4000000 in
set_option maxRecDepth 100000 in
theorem zc_X7_keyAt (l : Launch) (D : va_G) (ct : zCT) (h0 : Nat) (aS : Nat) (aF : Nat) (aX : Nat) (th : Int) (sg : Int) (sv : Nat) (ln : Nat) (ta : Nat) (f1 : Nat) (l1 : Nat) (f2 : Nat) (l2 : Nat) (g : Nat → Int) (k : Nat) (hk9 : k < 40) : zMet l yX7_keyAt wsX7_keyAt ({ frames := 1, cells := 0, slots := 0, locals := 22 } : Room) D ct [.ref h0, zi ((k : Nat) : Int)] [zO h0 6 [zi th, .ref aS, zi ((sv : Nat) : Int), .ref aF, .ref aX, zi ((ln : Nat) : Int), zi ((ta : Nat) : Int), zi sg, zi ((f1 : Nat) : Int), zi ((l1 : Nat) : Int), zi ((f2 : Nat) : Int), zi ((l2 : Nat) : Int)], zAI ct aS 3888 g] (fun _ : Unit => True) (fun _ => some (zi ((mK g k)))) (fun _ => [zO h0 6 [zi th, .ref aS, zi ((sv : Nat) : Int), .ref aF, .ref aX, zi ((ln : Nat) : Int), zi ((ta : Nat) : Int), zi sg, zi ((f1 : Nat) : Int), zi ((l1 : Nat) : Int), zi ((f2 : Nat) : Int), zi ((l2 : Nat) : Int)], zAI ct aS 3888 g]) 0 0 := by
  refine zMet_i (cc := cX7_keyAt) (maxL := 2) (r := fun _ => (mK g k)) (by decide) rfl (Nat.le_of_ble_eq_true rfl) ?_
  intro p e s m below meth c A Q Z hnm hR
  refine z_eqs _ [(0, .ref h0), (1, zi ((k : Nat) : Int))] _ rfl rfl rfl ?_
  refine z_sipush (v := 1000) Z dX7_keyAt_0 (by decide +kernel) ?_
  refine z_aload_n Z dX7_keyAt_3 0 rfl ?_
  refine z_iload_n Z dX7_keyAt_4 1 rfl ?_
  refine z_iconst (v := 1) Z dX7_keyAt_5 rfl ?_
  refine z_callVu (rest := [zi 1000]) Z dX7_keyAt_6 6 0 _ _ rfl rfl rfl (zc_X7_of l D ct (h0) (aS) (aF) (aX) (th) (sg) (sv) (ln) (ta) (f1) (l1) (f2) (l2) (g) (k) (1) (by first | assumption | omega) (by first | assumption | omega)) (cwV 2 Z.1.2.2.2.2 gX7_keyAt_X7_of rfl rfl rfl (by decide +kernel) ⟨Nat.le_of_ble_eq_true rfl, Nat.le_of_ble_eq_true rfl⟩) rfl (Nat.le_of_ble_eq_true rfl) ⟨Nat.le_of_ble_eq_true rfl, Nat.le_of_ble_eq_true rfl⟩ [true, true] [zO h0 6 [zi th, .ref aS, zi ((sv : Nat) : Int), .ref aF, .ref aX, zi ((ln : Nat) : Int), zi ((ta : Nat) : Int), zi sg, zi ((f1 : Nat) : Int), zi ((l1 : Nat) : Int), zi ((f2 : Nat) : Int), zi ((l2 : Nat) : Int)], zAI ct aS 3888 g] [zi (mI g k 1), zi 1000] rfl rfl rfl rfl ?_
  refine z_imul Z dX7_keyAt_9 ?_
  refine z_aload_n Z dX7_keyAt_10 0 rfl ?_
  refine z_iload_n Z dX7_keyAt_11 1 rfl ?_
  refine z_iconst (v := 0) Z dX7_keyAt_12 rfl ?_
  refine z_callVu (rest := [zi (1000 * (mI g k 1))]) Z dX7_keyAt_13 6 0 _ _ rfl rfl rfl (zc_X7_of l D ct (h0) (aS) (aF) (aX) (th) (sg) (sv) (ln) (ta) (f1) (l1) (f2) (l2) (g) (k) (0) (by first | assumption | omega) (by first | assumption | omega)) (cwV 2 Z.1.2.2.2.2 gX7_keyAt_X7_of rfl rfl rfl (by decide +kernel) ⟨Nat.le_of_ble_eq_true rfl, Nat.le_of_ble_eq_true rfl⟩) rfl (Nat.le_of_ble_eq_true rfl) ⟨Nat.le_of_ble_eq_true rfl, Nat.le_of_ble_eq_true rfl⟩ [true, true] [zO h0 6 [zi th, .ref aS, zi ((sv : Nat) : Int), .ref aF, .ref aX, zi ((ln : Nat) : Int), zi ((ta : Nat) : Int), zi sg, zi ((f1 : Nat) : Int), zi ((l1 : Nat) : Int), zi ((f2 : Nat) : Int), zi ((l2 : Nat) : Int)], zAI ct aS 3888 g] [zi (mI g k 0), zi (1000 * (mI g k 1))] rfl rfl rfl rfl ?_
  refine z_iadd Z dX7_keyAt_16 ?_
  refine z_eqs [zO h0 6 [zi th, .ref aS, zi ((sv : Nat) : Int), .ref aF, .ref aX, zi ((ln : Nat) : Int), zi ((ta : Nat) : Int), zi sg, zi ((f1 : Nat) : Int), zi ((l1 : Nat) : Int), zi ((f2 : Nat) : Int), zi ((l2 : Nat) : Int)], zAI ct aS 3888 g] _ [zi (mK g k)] (rfl) rfl (congrArg (fun z => [zi z]) (rfl)) ?_
  exact hR _ _ () trivial dX7_keyAt_17
theorem zin_X7_placeOf_X7 : ∀ w ∈ wsX70, w ∈ wsX7_placeOf := by decide +kernel
theorem zlk_X7_placeOf_7 : Cond.fieldLink RX7 7 "HashedDirectoryModel" "s" "[I" ∈ wsX7_placeOf := by decide +kernel
set_option maxHeartbeats 4000000 in
set_option maxRecDepth 100000 in
theorem zc_X7_placeOf (l : Launch) (D : va_G) (ct : zCT) (h0 : Nat) (aS : Nat) (aF : Nat) (aX : Nat) (th : Int) (sg : Int) (sv : Nat) (ln : Nat) (ta : Nat) (f1 : Nat) (l1 : Nat) (f2 : Nat) (l2 : Nat) (g : Nat → Int) (cnt : Nat) (id : Int) (hcn : g 0 = ((cnt : Nat) : Int)) (hc : cnt ≤ 40) (hg : ∀ k, k < 432 → -2 ≤ g k ∧ g k < 70000) (hid : -2147483648 ≤ id ∧ id < 2147483648) : zMet l yX7_placeOf wsX7_placeOf ({ frames := 1, cells := 0, slots := 0, locals := 22 } : Room) D ct [.ref h0, zi id] [zO h0 6 [zi th, .ref aS, zi ((sv : Nat) : Int), .ref aF, .ref aX, zi ((ln : Nat) : Int), zi ((ta : Nat) : Int), zi sg, zi ((f1 : Nat) : Int), zi ((l1 : Nat) : Int), zi ((f2 : Nat) : Int), zi ((l2 : Nat) : Int)], zAI ct aS 3888 g] (fun _ : Unit => True) (fun _ => some (zi ((fo2 (mP g id) cnt)))) (fun _ => [zO h0 6 [zi th, .ref aS, zi ((sv : Nat) : Int), .ref aF, .ref aX, zi ((ln : Nat) : Int), zi ((ta : Nat) : Int), zi sg, zi ((f1 : Nat) : Int), zi ((l1 : Nat) : Int), zi ((f2 : Nat) : Int), zi ((l2 : Nat) : Int)], zAI ct aS 3888 g]) 0 0 := by
  refine zMet_i (cc := cX7_placeOf) (maxL := 3) (r := fun _ => (fo2 (mP g id) cnt)) (by decide) rfl (Nat.le_of_ble_eq_true rfl) ?_
  intro p e s m below meth c A Q Z hnm hR
  refine z_eqs _ [(0, .ref h0), (1, zi id)] _ rfl rfl rfl ?_
  refine z_iconst (v := 0) Z dX7_placeOf_0 rfl ?_
  refine z_istore_n Z dX7_placeOf_1 [(2, zi 0), (0, .ref h0), (1, zi id)] (by decide) rfl ?_
  refine z_lsub [1, 2, 0] [(0, .ref h0), (1, zi id), (2, zi 0)] rfl ?_
  have LOOP2 : ∀ (N0 : Nat) (i : Nat) (x2 : Int), cnt + 1 - i < N0 → x2 = ((i : Nat) : Int) → (i ≤ cnt) → (∀ j, j < i → mP g id j = false) → zW p l e ({ frames := 1, cells := 0, slots := 0, locals := 22 } : Room) s m ([.ref h0, zi id] : List Value).toArray below meth c D A 3 Q 0 0 [zO h0 6 [zi th, .ref aS, zi ((sv : Nat) : Int), .ref aF, .ref aX, zi ((ln : Nat) : Int), zi ((ta : Nat) : Int), zi sg, zi ((f1 : Nat) : Int), zi ((l1 : Nat) : Int), zi ((f2 : Nat) : Int), zi ((l2 : Nat) : Int)], zAI ct aS 3888 g] [(0, .ref h0), (1, zi id), (2, zi x2)] 2 [] := by
    intro N0
    induction N0 with
    | zero => intro i x2 hm0; exact absurd hm0 (Nat.not_lt_zero _)
    | succ N0 ih0 =>
      intro i x2 hm0 ex2 hi hj
      subst ex2
      refine z_iload_n Z dX7_placeOf_2 2 rfl ?_
      refine z_aload_n Z dX7_placeOf_3 0 rfl ?_
      refine z_get Z dX7_placeOf_4 zin_X7_placeOf_X7 0 1 rfl rfl (by decide) zlk_X7_placeOf_7 rfl ?_
      refine z_iconst (v := 0) Z dX7_placeOf_7 rfl ?_
      refine z_iald Z dX7_placeOf_8 1 (0) rfl (by omega) ⟨by omega, by omega⟩ ?_
      have he1 := hg (0) (by omega)
      refine z_icmp_ge Z 30 dX7_placeOf_9 (by decide) (by omega) (by omega) (fun h9 => ?_) (fun h9 => ?_)
      · refine z_bipush (v := -2) Z dX7_placeOf_30 (by decide +kernel) ?_
        refine z_eqs [zO h0 6 [zi th, .ref aS, zi ((sv : Nat) : Int), .ref aF, .ref aX, zi ((ln : Nat) : Int), zi ((ta : Nat) : Int), zi sg, zi ((f1 : Nat) : Int), zi ((l1 : Nat) : Int), zi ((f2 : Nat) : Int), zi ((l2 : Nat) : Int)], zAI ct aS 3888 g] _ [zi (fo2 (mP g id) cnt)] (rfl) rfl (congrArg (fun z => [zi z]) (fo2_no (fun j h9 => hj j (by omega)))) ?_
        exact hR _ _ () trivial dX7_placeOf_32
      · refine z_aload_n Z dX7_placeOf_12 0 rfl ?_
        refine z_iload_n Z dX7_placeOf_13 2 rfl ?_
        refine z_iconst (v := 0) Z dX7_placeOf_14 rfl ?_
        refine z_callVu (rest := []) Z dX7_placeOf_15 6 0 _ _ rfl rfl rfl (zc_X7_of l D ct (h0) (aS) (aF) (aX) (th) (sg) (sv) (ln) (ta) (f1) (l1) (f2) (l2) (g) (i) (0) (by first | assumption | omega) (by first | assumption | omega)) (cwV 2 Z.1.2.2.2.2 gX7_placeOf_X7_of rfl rfl rfl (by decide +kernel) ⟨Nat.le_of_ble_eq_true rfl, Nat.le_of_ble_eq_true rfl⟩) rfl (Nat.le_of_ble_eq_true rfl) ⟨Nat.le_of_ble_eq_true rfl, Nat.le_of_ble_eq_true rfl⟩ [true, true] [zO h0 6 [zi th, .ref aS, zi ((sv : Nat) : Int), .ref aF, .ref aX, zi ((ln : Nat) : Int), zi ((ta : Nat) : Int), zi sg, zi ((f1 : Nat) : Int), zi ((l1 : Nat) : Int), zi ((f2 : Nat) : Int), zi ((l2 : Nat) : Int)], zAI ct aS 3888 g] [zi (mI g i 0)] rfl rfl rfl rfl ?_
        have hr2 := mI_rg (k := i) (w := 0) hg (by omega) (by decide)
        refine z_iload_n Z dX7_placeOf_18 1 rfl ?_
        refine z_icmp_ne Z 24 dX7_placeOf_19 (by decide) (by omega) (by omega) (fun h19 => ?_) (fun h19 => ?_)
        · refine z_iinc (v := ((i + 1 : Nat) : Int)) Z dX7_placeOf_24 2 [(2, zi ((i + 1 : Nat) : Int)), (0, .ref h0), (1, zi id)] rfl (by omega) (by decide) rfl ?_
          refine z_goto Z 2 dX7_placeOf_27 (by decide) ?_
          refine z_lsub [1, 2, 0] [(0, .ref h0), (1, zi id), (2, zi ((i + 1 : Nat) : Int))] rfl ?_
          exact ih0 (i + 1) _ (by omega) (by first | rfl | omega)  (by first | assumption | omega) (lt_succ_all hj (decide_eq_false h19))
        · refine z_iload_n Z dX7_placeOf_22 2 rfl ?_
          refine z_eqs [zO h0 6 [zi th, .ref aS, zi ((sv : Nat) : Int), .ref aF, .ref aX, zi ((ln : Nat) : Int), zi ((ta : Nat) : Int), zi sg, zi ((f1 : Nat) : Int), zi ((l1 : Nat) : Int), zi ((f2 : Nat) : Int), zi ((l2 : Nat) : Int)], zAI ct aS 3888 g] _ [zi (fo2 (mP g id) cnt)] (rfl) rfl (congrArg (fun z => [zi z]) (fo2_yes (by omega) hj (decide_eq_true h19))) ?_
          exact hR _ _ () trivial dX7_placeOf_23
  exact LOOP2 (cnt + 1 - 0 + 1) 0 _ (Nat.lt_succ_self _) (by first | rfl | omega)  (by first | assumption | omega) (fun j hj => absurd hj (Nat.not_lt_zero j))
theorem zin_X7_placeOfName_X7 : ∀ w ∈ wsX70, w ∈ wsX7_placeOfName := by decide +kernel
theorem zlk_X7_placeOfName_7 : Cond.fieldLink RX7 7 "HashedDirectoryModel" "s" "[I" ∈ wsX7_placeOfName := by decide +kernel
theorem zlk_X7_placeOfName_17 : Cond.fieldLink RX7 17 "HashedDirectoryModel" "text" "[I" ∈ wsX7_placeOfName := by decide +kernel
set_option maxHeartbeats 4000000 in
set_option maxRecDepth 100000 in
theorem zc_X7_placeOfName (l : Launch) (D : va_G) (ct : zCT) (h0 : Nat) (aS : Nat) (aF : Nat) (aX : Nat) (th : Int) (sg : Int) (sv : Nat) (ln : Nat) (ta : Nat) (f1 : Nat) (l1 : Nat) (f2 : Nat) (l2 : Nat) (g : Nat → Int) (tx : Nat → Nat) (cnt : Nat) (a : Nat) (z : Nat) (hcn : g 0 = ((cnt : Nat) : Int)) (hc : cnt ≤ 40) (hg : ∀ k, k < 432 → -2 ≤ g k ∧ g k < 70000) (ht : ∀ j, j < 80 → tx j < 128) (haz : a + z ≤ 80) (hz : z ≤ 6) : zMet l yX7_placeOfName wsX7_placeOfName ({ frames := 1, cells := 0, slots := 0, locals := 22 } : Room) D ct [.ref h0, zi ((a : Nat) : Int), zi ((z : Nat) : Int)] [zO h0 6 [zi th, .ref aS, zi ((sv : Nat) : Int), .ref aF, .ref aX, zi ((ln : Nat) : Int), zi ((ta : Nat) : Int), zi sg, zi ((f1 : Nat) : Int), zi ((l1 : Nat) : Int), zi ((f2 : Nat) : Int), zi ((l2 : Nat) : Int)], zAI ct aS 3888 g, zAI ct aX 80 (zN tx)] (fun _ : Unit => True) (fun _ => some (zi ((fo2 (mN g tx a z) cnt)))) (fun _ => [zO h0 6 [zi th, .ref aS, zi ((sv : Nat) : Int), .ref aF, .ref aX, zi ((ln : Nat) : Int), zi ((ta : Nat) : Int), zi sg, zi ((f1 : Nat) : Int), zi ((l1 : Nat) : Int), zi ((f2 : Nat) : Int), zi ((l2 : Nat) : Int)], zAI ct aS 3888 g, zAI ct aX 80 (zN tx)]) 0 0 := by
  refine zMet_i (cc := cX7_placeOfName) (maxL := 6) (r := fun _ => (fo2 (mN g tx a z) cnt)) (by decide) rfl (Nat.le_of_ble_eq_true rfl) ?_
  intro p e s m below meth c A Q Z hnm hR
  refine z_eqs _ [(0, .ref h0), (1, zi ((a : Nat) : Int)), (2, zi ((z : Nat) : Int))] _ rfl rfl rfl ?_
  refine z_iconst (v := 0) Z dX7_placeOfName_0 rfl ?_
  refine z_istore_n Z dX7_placeOfName_1 [(3, zi 0), (0, .ref h0), (1, zi ((a : Nat) : Int)), (2, zi ((z : Nat) : Int))] (by decide) rfl ?_
  refine z_lsub [1, 2, 3, 0] [(0, .ref h0), (1, zi ((a : Nat) : Int)), (2, zi ((z : Nat) : Int)), (3, zi 0)] rfl ?_
  have LOOP2 : ∀ (N0 : Nat) (i : Nat) (x3 : Int), cnt + 1 - i < N0 → x3 = ((i : Nat) : Int) → (i ≤ cnt) → (∀ j, j < i → mN g tx a z j = false) → zW p l e ({ frames := 1, cells := 0, slots := 0, locals := 22 } : Room) s m ([.ref h0, zi ((a : Nat) : Int), zi ((z : Nat) : Int)] : List Value).toArray below meth c D A 6 Q 0 0 [zO h0 6 [zi th, .ref aS, zi ((sv : Nat) : Int), .ref aF, .ref aX, zi ((ln : Nat) : Int), zi ((ta : Nat) : Int), zi sg, zi ((f1 : Nat) : Int), zi ((l1 : Nat) : Int), zi ((f2 : Nat) : Int), zi ((l2 : Nat) : Int)], zAI ct aS 3888 g, zAI ct aX 80 (zN tx)] [(0, .ref h0), (1, zi ((a : Nat) : Int)), (2, zi ((z : Nat) : Int)), (3, zi x3)] 2 [] := by
    intro N0
    induction N0 with
    | zero => intro i x3 hm0; exact absurd hm0 (Nat.not_lt_zero _)
    | succ N0 ih0 =>
      intro i x3 hm0 ex3 hi hj
      subst ex3
      refine z_iload_n Z dX7_placeOfName_2 3 rfl ?_
      refine z_aload_n Z dX7_placeOfName_3 0 rfl ?_
      refine z_get Z dX7_placeOfName_4 zin_X7_placeOfName_X7 0 1 rfl rfl (by decide) zlk_X7_placeOfName_7 rfl ?_
      refine z_iconst (v := 0) Z dX7_placeOfName_7 rfl ?_
      refine z_iald Z dX7_placeOfName_8 1 (0) rfl (by omega) ⟨by omega, by omega⟩ ?_
      have he1 := hg (0) (by omega)
      refine z_icmp_ge Z 90 dX7_placeOfName_9 (by decide) (by omega) (by omega) (fun h9 => ?_) (fun h9 => ?_)
      · refine z_bipush (v := -2) Z dX7_placeOfName_90 (by decide +kernel) ?_
        refine z_eqs [zO h0 6 [zi th, .ref aS, zi ((sv : Nat) : Int), .ref aF, .ref aX, zi ((ln : Nat) : Int), zi ((ta : Nat) : Int), zi sg, zi ((f1 : Nat) : Int), zi ((l1 : Nat) : Int), zi ((f2 : Nat) : Int), zi ((l2 : Nat) : Int)], zAI ct aS 3888 g, zAI ct aX 80 (zN tx)] _ [zi (fo2 (mN g tx a z) cnt)] (rfl) rfl (congrArg (fun z => [zi z]) (fo2_no (fun j h9 => hj j (by omega)))) ?_
        exact hR _ _ () trivial dX7_placeOfName_92
      · refine z_aload_n Z dX7_placeOfName_12 0 rfl ?_
        refine z_iload_n Z dX7_placeOfName_13 3 rfl ?_
        refine z_iconst (v := 2) Z dX7_placeOfName_14 rfl ?_
        refine z_callVu (rest := []) Z dX7_placeOfName_15 6 0 _ _ rfl rfl rfl (zc_X7_of l D ct (h0) (aS) (aF) (aX) (th) (sg) (sv) (ln) (ta) (f1) (l1) (f2) (l2) (g) (i) (2) (by first | assumption | omega) (by first | assumption | omega)) (cwV 2 Z.1.2.2.2.2 gX7_placeOfName_X7_of rfl rfl rfl (by decide +kernel) ⟨Nat.le_of_ble_eq_true rfl, Nat.le_of_ble_eq_true rfl⟩) rfl (Nat.le_of_ble_eq_true rfl) ⟨Nat.le_of_ble_eq_true rfl, Nat.le_of_ble_eq_true rfl⟩ [true, true, false] [zO h0 6 [zi th, .ref aS, zi ((sv : Nat) : Int), .ref aF, .ref aX, zi ((ln : Nat) : Int), zi ((ta : Nat) : Int), zi sg, zi ((f1 : Nat) : Int), zi ((l1 : Nat) : Int), zi ((f2 : Nat) : Int), zi ((l2 : Nat) : Int)], zAI ct aS 3888 g, zAI ct aX 80 (zN tx)] [zi (mI g i 2)] rfl rfl rfl rfl ?_
        have hr2 := mI_rg (k := i) (w := 2) hg (by omega) (by decide)
        refine z_iload_n Z dX7_placeOfName_18 2 rfl ?_
        refine z_icmp_ne Z 26 dX7_placeOfName_19 (by decide) (by omega) (by omega) (fun h19 => ?_) (fun h19 => ?_)
        · refine z_iconst (v := 0) Z dX7_placeOfName_26 rfl ?_
          refine z_istore Z dX7_placeOfName_27 [(4, zi 0), (0, .ref h0), (1, zi ((a : Nat) : Int)), (2, zi ((z : Nat) : Int)), (3, zi ((i : Nat) : Int))] (by decide) rfl ?_
          refine z_iconst (v := 0) Z dX7_placeOfName_29 rfl ?_
          refine z_istore Z dX7_placeOfName_30 [(5, zi 0), (4, zi 0), (0, .ref h0), (1, zi ((a : Nat) : Int)), (2, zi ((z : Nat) : Int)), (3, zi ((i : Nat) : Int))] (by decide) rfl ?_
          refine z_lsub [2, 3, 4, 5, 1, 0] [(0, .ref h0), (1, zi ((a : Nat) : Int)), (2, zi ((z : Nat) : Int)), (3, zi ((i : Nat) : Int)), (4, zi 0), (5, zi 0)] rfl ?_
          have LOOP32 : ∀ (N1 : Nat) (bb : Bool) (q : Nat) (x4 : Int) (x5 : Int), z + 1 - q < N1 → x4 = zb bb → x5 = ((q : Nat) : Int) → (q ≤ z) → (bb = decide (mI g i 2 = ((z : Nat) : Int) ∧ ∀ r, r < q → mI g i (3 + r) = ((tx (a + r) : Nat) : Int))) → zW p l e ({ frames := 1, cells := 0, slots := 0, locals := 22 } : Room) s m ([.ref h0, zi ((a : Nat) : Int), zi ((z : Nat) : Int)] : List Value).toArray below meth c D A 6 Q 0 0 [zO h0 6 [zi th, .ref aS, zi ((sv : Nat) : Int), .ref aF, .ref aX, zi ((ln : Nat) : Int), zi ((ta : Nat) : Int), zi sg, zi ((f1 : Nat) : Int), zi ((l1 : Nat) : Int), zi ((f2 : Nat) : Int), zi ((l2 : Nat) : Int)], zAI ct aS 3888 g, zAI ct aX 80 (zN tx)] [(0, .ref h0), (1, zi ((a : Nat) : Int)), (2, zi ((z : Nat) : Int)), (3, zi ((i : Nat) : Int)), (4, zi x4), (5, zi x5)] 32 [] := by
            intro N1
            induction N1 with
            | zero => intro bb q x4 x5 hm1; exact absurd hm1 (Nat.not_lt_zero _)
            | succ N1 ih1 =>
              intro bb q x4 x5 hm1 ex4 ex5 hq hb
              subst ex4
              subst ex5
              refine z_iload Z dX7_placeOfName_32 5 rfl ?_
              refine z_iload_n Z dX7_placeOfName_34 2 rfl ?_
              refine z_icmp_ge Z 77 dX7_placeOfName_35 (by decide) (by omega) (by omega) (fun h35 => ?_) (fun h35 => ?_)
              · have hqz : q = z := by omega
                refine z_iload Z dX7_placeOfName_77 4 rfl ?_
                refine z_ifb_eq Z 84 dX7_placeOfName_79 (by decide) (fun h79 => ?_) (fun h79 => ?_)
                · have hz9 : mN g tx a z i = false := mN_f (hb.symm.trans h79) hq
                  refine z_iinc (v := ((i + 1 : Nat) : Int)) Z dX7_placeOfName_84 3 [(3, zi ((i + 1 : Nat) : Int)), (0, .ref h0), (1, zi ((a : Nat) : Int)), (2, zi ((z : Nat) : Int)), (4, zi (zb bb)), (5, zi ((q : Nat) : Int))] rfl (by omega) (by decide) rfl ?_
                  refine z_goto Z 2 dX7_placeOfName_87 (by decide) ?_
                  refine z_lsub [1, 2, 3, 0] [(0, .ref h0), (1, zi ((a : Nat) : Int)), (2, zi ((z : Nat) : Int)), (3, zi ((i + 1 : Nat) : Int))] rfl ?_
                  exact ih0 (i + 1) _ (by omega) (by first | rfl | omega)  (by first | assumption | omega) (lt_succ_all hj hz9)
                · have hz9 : mN g tx a z i = true := by first | exact mN_t (hb.symm.trans h79) (by omega) | exact absurd (h40.symm.trans h79) (by decide)
                  refine z_iload_n Z dX7_placeOfName_82 3 rfl ?_
                  refine z_eqs [zO h0 6 [zi th, .ref aS, zi ((sv : Nat) : Int), .ref aF, .ref aX, zi ((ln : Nat) : Int), zi ((ta : Nat) : Int), zi sg, zi ((f1 : Nat) : Int), zi ((l1 : Nat) : Int), zi ((f2 : Nat) : Int), zi ((l2 : Nat) : Int)], zAI ct aS 3888 g, zAI ct aX 80 (zN tx)] _ [zi (fo2 (mN g tx a z) cnt)] (rfl) rfl (congrArg (fun z => [zi z]) (fo2_yes (by omega) hj hz9)) ?_
                  exact hR _ _ () trivial dX7_placeOfName_83
              · refine z_iload Z dX7_placeOfName_38 4 rfl ?_
                refine z_ifb_eq Z 77 dX7_placeOfName_40 (by decide) (fun h40 => ?_) (fun h40 => ?_)
                · refine z_iload Z dX7_placeOfName_77 4 rfl ?_
                  refine z_ifb_eq Z 84 dX7_placeOfName_79 (by decide) (fun h79 => ?_) (fun h79 => ?_)
                  · have hz9 : mN g tx a z i = false := mN_f (hb.symm.trans h79) hq
                    refine z_iinc (v := ((i + 1 : Nat) : Int)) Z dX7_placeOfName_84 3 [(3, zi ((i + 1 : Nat) : Int)), (0, .ref h0), (1, zi ((a : Nat) : Int)), (2, zi ((z : Nat) : Int)), (4, zi (zb bb)), (5, zi ((q : Nat) : Int))] rfl (by omega) (by decide) rfl ?_
                    refine z_goto Z 2 dX7_placeOfName_87 (by decide) ?_
                    refine z_lsub [1, 2, 3, 0] [(0, .ref h0), (1, zi ((a : Nat) : Int)), (2, zi ((z : Nat) : Int)), (3, zi ((i + 1 : Nat) : Int))] rfl ?_
                    exact ih0 (i + 1) _ (by omega) (by first | rfl | omega)  (by first | assumption | omega) (lt_succ_all hj hz9)
                  · have hz9 : mN g tx a z i = true := by first | exact mN_t (hb.symm.trans h79) (by omega) | exact absurd (h40.symm.trans h79) (by decide)
                    refine z_iload_n Z dX7_placeOfName_82 3 rfl ?_
                    refine z_eqs [zO h0 6 [zi th, .ref aS, zi ((sv : Nat) : Int), .ref aF, .ref aX, zi ((ln : Nat) : Int), zi ((ta : Nat) : Int), zi sg, zi ((f1 : Nat) : Int), zi ((l1 : Nat) : Int), zi ((f2 : Nat) : Int), zi ((l2 : Nat) : Int)], zAI ct aS 3888 g, zAI ct aX 80 (zN tx)] _ [zi (fo2 (mN g tx a z) cnt)] (rfl) rfl (congrArg (fun z => [zi z]) (fo2_yes (by omega) hj hz9)) ?_
                    exact hR _ _ () trivial dX7_placeOfName_83
                · refine z_aload_n Z dX7_placeOfName_43 0 rfl ?_
                  refine z_iload_n Z dX7_placeOfName_44 3 rfl ?_
                  refine z_iconst (v := 3) Z dX7_placeOfName_45 rfl ?_
                  refine z_iload Z dX7_placeOfName_46 5 rfl ?_
                  refine z_iadd Z dX7_placeOfName_48 ?_
                  refine z_top (y := ((3 + q : Nat) : Int)) (by omega) ?_
                  refine z_callVu (rest := []) Z dX7_placeOfName_49 6 0 _ _ rfl rfl rfl (zc_X7_of l D ct (h0) (aS) (aF) (aX) (th) (sg) (sv) (ln) (ta) (f1) (l1) (f2) (l2) (g) (i) (3 + q) (by first | assumption | omega) (by first | assumption | omega)) (cwV 2 Z.1.2.2.2.2 gX7_placeOfName_X7_of rfl rfl rfl (by decide +kernel) ⟨Nat.le_of_ble_eq_true rfl, Nat.le_of_ble_eq_true rfl⟩) rfl (Nat.le_of_ble_eq_true rfl) ⟨Nat.le_of_ble_eq_true rfl, Nat.le_of_ble_eq_true rfl⟩ [true, true, false] [zO h0 6 [zi th, .ref aS, zi ((sv : Nat) : Int), .ref aF, .ref aX, zi ((ln : Nat) : Int), zi ((ta : Nat) : Int), zi sg, zi ((f1 : Nat) : Int), zi ((l1 : Nat) : Int), zi ((f2 : Nat) : Int), zi ((l2 : Nat) : Int)], zAI ct aS 3888 g, zAI ct aX 80 (zN tx)] [zi (mI g i (3 + q))] rfl rfl rfl rfl ?_
                  have hr3 := mI_rg (k := i) (w := 3 + q) hg (by omega) (by omega)
                  refine z_aload_n Z dX7_placeOfName_52 0 rfl ?_
                  refine z_get Z dX7_placeOfName_53 zin_X7_placeOfName_X7 0 4 rfl rfl (by decide) zlk_X7_placeOfName_17 rfl ?_
                  refine z_iload_n Z dX7_placeOfName_56 1 rfl ?_
                  refine z_iload Z dX7_placeOfName_57 5 rfl ?_
                  refine z_iadd Z dX7_placeOfName_59 ?_
                  refine z_top (y := ((a + q : Nat) : Int)) (by omega) ?_
                  refine z_ialdN Z dX7_placeOfName_60 2 (a + q) rfl (rfl) ⟨by omega, by omega⟩ ?_
                  have he4 := ht (a + q) (by omega)
                  refine z_icmp_ne Z 68 dX7_placeOfName_61 (by decide) (by omega) (by omega) (fun h61 => ?_) (fun h61 => ?_)
                  · refine z_iconst (v := 0) Z dX7_placeOfName_68 rfl ?_
                    refine z_istore Z dX7_placeOfName_69 [(4, zi 0), (0, .ref h0), (1, zi ((a : Nat) : Int)), (2, zi ((z : Nat) : Int)), (3, zi ((i : Nat) : Int)), (5, zi ((q : Nat) : Int))] (by decide) rfl ?_
                    refine z_iinc (v := ((q + 1 : Nat) : Int)) Z dX7_placeOfName_71 5 [(5, zi ((q + 1 : Nat) : Int)), (4, zi 0), (0, .ref h0), (1, zi ((a : Nat) : Int)), (2, zi ((z : Nat) : Int)), (3, zi ((i : Nat) : Int))] rfl (by omega) (by decide) rfl ?_
                    refine z_goto Z 32 dX7_placeOfName_74 (by decide) ?_
                    refine z_lsub [2, 3, 4, 5, 1, 0] [(0, .ref h0), (1, zi ((a : Nat) : Int)), (2, zi ((z : Nat) : Int)), (3, zi ((i : Nat) : Int)), (4, zi 0), (5, zi ((q + 1 : Nat) : Int))] rfl ?_
                    exact ih1 false (q + 1) _ _ (by omega) (by first | rfl | omega) (by first | rfl | omega)  (by first | assumption | omega) ((decide_eq_false (fun z9 => h61 (z9.2 q (Nat.lt_succ_self q)))).symm)
                  · refine z_iconst (v := 1) Z dX7_placeOfName_64 rfl ?_
                    refine z_goto Z 69 dX7_placeOfName_65 (by decide) ?_
                    refine z_istore Z dX7_placeOfName_69 [(4, zi 1), (0, .ref h0), (1, zi ((a : Nat) : Int)), (2, zi ((z : Nat) : Int)), (3, zi ((i : Nat) : Int)), (5, zi ((q : Nat) : Int))] (by decide) rfl ?_
                    refine z_iinc (v := ((q + 1 : Nat) : Int)) Z dX7_placeOfName_71 5 [(5, zi ((q + 1 : Nat) : Int)), (4, zi 1), (0, .ref h0), (1, zi ((a : Nat) : Int)), (2, zi ((z : Nat) : Int)), (3, zi ((i : Nat) : Int))] rfl (by omega) (by decide) rfl ?_
                    refine z_goto Z 32 dX7_placeOfName_74 (by decide) ?_
                    refine z_lsub [2, 3, 4, 5, 1, 0] [(0, .ref h0), (1, zi ((a : Nat) : Int)), (2, zi ((z : Nat) : Int)), (3, zi ((i : Nat) : Int)), (4, zi 1), (5, zi ((q + 1 : Nat) : Int))] rfl ?_
                    exact ih1 true (q + 1) _ _ (by omega) (by first | rfl | omega) (by first | rfl | omega)  (by first | assumption | omega) ((decide_eq_true ⟨(of_decide_eq_true (hb.symm.trans h40)).1, lt_succ_all (of_decide_eq_true (hb.symm.trans h40)).2 h61⟩).symm)
          exact LOOP32 (z + 1 - 0 + 1) false 0 _ _ (Nat.lt_succ_self _) (by first | rfl | omega) (by first | rfl | omega)  (by first | assumption | omega) ((decide_eq_false (fun z9 => h19 z9.1)).symm)
        · refine z_iconst (v := 1) Z dX7_placeOfName_22 rfl ?_
          refine z_goto Z 27 dX7_placeOfName_23 (by decide) ?_
          refine z_istore Z dX7_placeOfName_27 [(4, zi 1), (0, .ref h0), (1, zi ((a : Nat) : Int)), (2, zi ((z : Nat) : Int)), (3, zi ((i : Nat) : Int))] (by decide) rfl ?_
          refine z_iconst (v := 0) Z dX7_placeOfName_29 rfl ?_
          refine z_istore Z dX7_placeOfName_30 [(5, zi 0), (4, zi 1), (0, .ref h0), (1, zi ((a : Nat) : Int)), (2, zi ((z : Nat) : Int)), (3, zi ((i : Nat) : Int))] (by decide) rfl ?_
          refine z_lsub [2, 3, 4, 5, 1, 0] [(0, .ref h0), (1, zi ((a : Nat) : Int)), (2, zi ((z : Nat) : Int)), (3, zi ((i : Nat) : Int)), (4, zi 1), (5, zi 0)] rfl ?_
          have LOOP32 : ∀ (N1 : Nat) (bb : Bool) (q : Nat) (x4 : Int) (x5 : Int), z + 1 - q < N1 → x4 = zb bb → x5 = ((q : Nat) : Int) → (q ≤ z) → (bb = decide (mI g i 2 = ((z : Nat) : Int) ∧ ∀ r, r < q → mI g i (3 + r) = ((tx (a + r) : Nat) : Int))) → zW p l e ({ frames := 1, cells := 0, slots := 0, locals := 22 } : Room) s m ([.ref h0, zi ((a : Nat) : Int), zi ((z : Nat) : Int)] : List Value).toArray below meth c D A 6 Q 0 0 [zO h0 6 [zi th, .ref aS, zi ((sv : Nat) : Int), .ref aF, .ref aX, zi ((ln : Nat) : Int), zi ((ta : Nat) : Int), zi sg, zi ((f1 : Nat) : Int), zi ((l1 : Nat) : Int), zi ((f2 : Nat) : Int), zi ((l2 : Nat) : Int)], zAI ct aS 3888 g, zAI ct aX 80 (zN tx)] [(0, .ref h0), (1, zi ((a : Nat) : Int)), (2, zi ((z : Nat) : Int)), (3, zi ((i : Nat) : Int)), (4, zi x4), (5, zi x5)] 32 [] := by
            intro N1
            induction N1 with
            | zero => intro bb q x4 x5 hm1; exact absurd hm1 (Nat.not_lt_zero _)
            | succ N1 ih1 =>
              intro bb q x4 x5 hm1 ex4 ex5 hq hb
              subst ex4
              subst ex5
              refine z_iload Z dX7_placeOfName_32 5 rfl ?_
              refine z_iload_n Z dX7_placeOfName_34 2 rfl ?_
              refine z_icmp_ge Z 77 dX7_placeOfName_35 (by decide) (by omega) (by omega) (fun h35 => ?_) (fun h35 => ?_)
              · have hqz : q = z := by omega
                refine z_iload Z dX7_placeOfName_77 4 rfl ?_
                refine z_ifb_eq Z 84 dX7_placeOfName_79 (by decide) (fun h79 => ?_) (fun h79 => ?_)
                · have hz9 : mN g tx a z i = false := mN_f (hb.symm.trans h79) hq
                  refine z_iinc (v := ((i + 1 : Nat) : Int)) Z dX7_placeOfName_84 3 [(3, zi ((i + 1 : Nat) : Int)), (0, .ref h0), (1, zi ((a : Nat) : Int)), (2, zi ((z : Nat) : Int)), (4, zi (zb bb)), (5, zi ((q : Nat) : Int))] rfl (by omega) (by decide) rfl ?_
                  refine z_goto Z 2 dX7_placeOfName_87 (by decide) ?_
                  refine z_lsub [1, 2, 3, 0] [(0, .ref h0), (1, zi ((a : Nat) : Int)), (2, zi ((z : Nat) : Int)), (3, zi ((i + 1 : Nat) : Int))] rfl ?_
                  exact ih0 (i + 1) _ (by omega) (by first | rfl | omega)  (by first | assumption | omega) (lt_succ_all hj hz9)
                · have hz9 : mN g tx a z i = true := by first | exact mN_t (hb.symm.trans h79) (by omega) | exact absurd (h40.symm.trans h79) (by decide)
                  refine z_iload_n Z dX7_placeOfName_82 3 rfl ?_
                  refine z_eqs [zO h0 6 [zi th, .ref aS, zi ((sv : Nat) : Int), .ref aF, .ref aX, zi ((ln : Nat) : Int), zi ((ta : Nat) : Int), zi sg, zi ((f1 : Nat) : Int), zi ((l1 : Nat) : Int), zi ((f2 : Nat) : Int), zi ((l2 : Nat) : Int)], zAI ct aS 3888 g, zAI ct aX 80 (zN tx)] _ [zi (fo2 (mN g tx a z) cnt)] (rfl) rfl (congrArg (fun z => [zi z]) (fo2_yes (by omega) hj hz9)) ?_
                  exact hR _ _ () trivial dX7_placeOfName_83
              · refine z_iload Z dX7_placeOfName_38 4 rfl ?_
                refine z_ifb_eq Z 77 dX7_placeOfName_40 (by decide) (fun h40 => ?_) (fun h40 => ?_)
                · refine z_iload Z dX7_placeOfName_77 4 rfl ?_
                  refine z_ifb_eq Z 84 dX7_placeOfName_79 (by decide) (fun h79 => ?_) (fun h79 => ?_)
                  · have hz9 : mN g tx a z i = false := mN_f (hb.symm.trans h79) hq
                    refine z_iinc (v := ((i + 1 : Nat) : Int)) Z dX7_placeOfName_84 3 [(3, zi ((i + 1 : Nat) : Int)), (0, .ref h0), (1, zi ((a : Nat) : Int)), (2, zi ((z : Nat) : Int)), (4, zi (zb bb)), (5, zi ((q : Nat) : Int))] rfl (by omega) (by decide) rfl ?_
                    refine z_goto Z 2 dX7_placeOfName_87 (by decide) ?_
                    refine z_lsub [1, 2, 3, 0] [(0, .ref h0), (1, zi ((a : Nat) : Int)), (2, zi ((z : Nat) : Int)), (3, zi ((i + 1 : Nat) : Int))] rfl ?_
                    exact ih0 (i + 1) _ (by omega) (by first | rfl | omega)  (by first | assumption | omega) (lt_succ_all hj hz9)
                  · have hz9 : mN g tx a z i = true := by first | exact mN_t (hb.symm.trans h79) (by omega) | exact absurd (h40.symm.trans h79) (by decide)
                    refine z_iload_n Z dX7_placeOfName_82 3 rfl ?_
                    refine z_eqs [zO h0 6 [zi th, .ref aS, zi ((sv : Nat) : Int), .ref aF, .ref aX, zi ((ln : Nat) : Int), zi ((ta : Nat) : Int), zi sg, zi ((f1 : Nat) : Int), zi ((l1 : Nat) : Int), zi ((f2 : Nat) : Int), zi ((l2 : Nat) : Int)], zAI ct aS 3888 g, zAI ct aX 80 (zN tx)] _ [zi (fo2 (mN g tx a z) cnt)] (rfl) rfl (congrArg (fun z => [zi z]) (fo2_yes (by omega) hj hz9)) ?_
                    exact hR _ _ () trivial dX7_placeOfName_83
                · refine z_aload_n Z dX7_placeOfName_43 0 rfl ?_
                  refine z_iload_n Z dX7_placeOfName_44 3 rfl ?_
                  refine z_iconst (v := 3) Z dX7_placeOfName_45 rfl ?_
                  refine z_iload Z dX7_placeOfName_46 5 rfl ?_
                  refine z_iadd Z dX7_placeOfName_48 ?_
                  refine z_top (y := ((3 + q : Nat) : Int)) (by omega) ?_
                  refine z_callVu (rest := []) Z dX7_placeOfName_49 6 0 _ _ rfl rfl rfl (zc_X7_of l D ct (h0) (aS) (aF) (aX) (th) (sg) (sv) (ln) (ta) (f1) (l1) (f2) (l2) (g) (i) (3 + q) (by first | assumption | omega) (by first | assumption | omega)) (cwV 2 Z.1.2.2.2.2 gX7_placeOfName_X7_of rfl rfl rfl (by decide +kernel) ⟨Nat.le_of_ble_eq_true rfl, Nat.le_of_ble_eq_true rfl⟩) rfl (Nat.le_of_ble_eq_true rfl) ⟨Nat.le_of_ble_eq_true rfl, Nat.le_of_ble_eq_true rfl⟩ [true, true, false] [zO h0 6 [zi th, .ref aS, zi ((sv : Nat) : Int), .ref aF, .ref aX, zi ((ln : Nat) : Int), zi ((ta : Nat) : Int), zi sg, zi ((f1 : Nat) : Int), zi ((l1 : Nat) : Int), zi ((f2 : Nat) : Int), zi ((l2 : Nat) : Int)], zAI ct aS 3888 g, zAI ct aX 80 (zN tx)] [zi (mI g i (3 + q))] rfl rfl rfl rfl ?_
                  have hr5 := mI_rg (k := i) (w := 3 + q) hg (by omega) (by omega)
                  refine z_aload_n Z dX7_placeOfName_52 0 rfl ?_
                  refine z_get Z dX7_placeOfName_53 zin_X7_placeOfName_X7 0 4 rfl rfl (by decide) zlk_X7_placeOfName_17 rfl ?_
                  refine z_iload_n Z dX7_placeOfName_56 1 rfl ?_
                  refine z_iload Z dX7_placeOfName_57 5 rfl ?_
                  refine z_iadd Z dX7_placeOfName_59 ?_
                  refine z_top (y := ((a + q : Nat) : Int)) (by omega) ?_
                  refine z_ialdN Z dX7_placeOfName_60 2 (a + q) rfl (rfl) ⟨by omega, by omega⟩ ?_
                  have he6 := ht (a + q) (by omega)
                  refine z_icmp_ne Z 68 dX7_placeOfName_61 (by decide) (by omega) (by omega) (fun h61 => ?_) (fun h61 => ?_)
                  · refine z_iconst (v := 0) Z dX7_placeOfName_68 rfl ?_
                    refine z_istore Z dX7_placeOfName_69 [(4, zi 0), (0, .ref h0), (1, zi ((a : Nat) : Int)), (2, zi ((z : Nat) : Int)), (3, zi ((i : Nat) : Int)), (5, zi ((q : Nat) : Int))] (by decide) rfl ?_
                    refine z_iinc (v := ((q + 1 : Nat) : Int)) Z dX7_placeOfName_71 5 [(5, zi ((q + 1 : Nat) : Int)), (4, zi 0), (0, .ref h0), (1, zi ((a : Nat) : Int)), (2, zi ((z : Nat) : Int)), (3, zi ((i : Nat) : Int))] rfl (by omega) (by decide) rfl ?_
                    refine z_goto Z 32 dX7_placeOfName_74 (by decide) ?_
                    refine z_lsub [2, 3, 4, 5, 1, 0] [(0, .ref h0), (1, zi ((a : Nat) : Int)), (2, zi ((z : Nat) : Int)), (3, zi ((i : Nat) : Int)), (4, zi 0), (5, zi ((q + 1 : Nat) : Int))] rfl ?_
                    exact ih1 false (q + 1) _ _ (by omega) (by first | rfl | omega) (by first | rfl | omega)  (by first | assumption | omega) ((decide_eq_false (fun z9 => h61 (z9.2 q (Nat.lt_succ_self q)))).symm)
                  · refine z_iconst (v := 1) Z dX7_placeOfName_64 rfl ?_
                    refine z_goto Z 69 dX7_placeOfName_65 (by decide) ?_
                    refine z_istore Z dX7_placeOfName_69 [(4, zi 1), (0, .ref h0), (1, zi ((a : Nat) : Int)), (2, zi ((z : Nat) : Int)), (3, zi ((i : Nat) : Int)), (5, zi ((q : Nat) : Int))] (by decide) rfl ?_
                    refine z_iinc (v := ((q + 1 : Nat) : Int)) Z dX7_placeOfName_71 5 [(5, zi ((q + 1 : Nat) : Int)), (4, zi 1), (0, .ref h0), (1, zi ((a : Nat) : Int)), (2, zi ((z : Nat) : Int)), (3, zi ((i : Nat) : Int))] rfl (by omega) (by decide) rfl ?_
                    refine z_goto Z 32 dX7_placeOfName_74 (by decide) ?_
                    refine z_lsub [2, 3, 4, 5, 1, 0] [(0, .ref h0), (1, zi ((a : Nat) : Int)), (2, zi ((z : Nat) : Int)), (3, zi ((i : Nat) : Int)), (4, zi 1), (5, zi ((q + 1 : Nat) : Int))] rfl ?_
                    exact ih1 true (q + 1) _ _ (by omega) (by first | rfl | omega) (by first | rfl | omega)  (by first | assumption | omega) ((decide_eq_true ⟨(of_decide_eq_true (hb.symm.trans h40)).1, lt_succ_all (of_decide_eq_true (hb.symm.trans h40)).2 h61⟩).symm)
          exact LOOP32 (z + 1 - 0 + 1) true 0 _ _ (Nat.lt_succ_self _) (by first | rfl | omega) (by first | rfl | omega)  (by first | assumption | omega) ((decide_eq_true ⟨h19, fun r hr => absurd hr (Nat.not_lt_zero r)⟩).symm)
  exact LOOP2 (cnt + 1 - 0 + 1) 0 _ (Nat.lt_succ_self _) (by first | rfl | omega)  (by first | assumption | omega) (fun j hj => absurd hj (Nat.not_lt_zero j))
theorem zin_X7_hashOfName_X7 : ∀ w ∈ wsX70, w ∈ wsX7_hashOfName := by decide +kernel
theorem zlk_X7_hashOfName_17 : Cond.fieldLink RX7 17 "HashedDirectoryModel" "text" "[I" ∈ wsX7_hashOfName := by decide +kernel
set_option maxHeartbeats 4000000 in
set_option maxRecDepth 100000 in
theorem zc_X7_hashOfName (l : Launch) (D : va_G) (ct : zCT) (h0 : Nat) (aS : Nat) (aF : Nat) (aX : Nat) (th : Int) (sg : Int) (sv : Nat) (ln : Nat) (ta : Nat) (f1 : Nat) (l1 : Nat) (f2 : Nat) (l2 : Nat) (tx : Nat → Nat) (a : Nat) (z : Nat) (ht : ∀ j, j < 80 → tx j < 128) (haz : a + z ≤ 80) (hz : z ≤ 6) (hw : ∀ j, j < z → 97 ≤ tx (a + j) ∧ tx (a + j) ≤ 122) : zMet l yX7_hashOfName wsX7_hashOfName ({ frames := 0, cells := 0, slots := 0, locals := 0 } : Room) D ct [.ref h0, zi ((a : Nat) : Int), zi ((z : Nat) : Int)] [zO h0 6 [zi th, .ref aS, zi ((sv : Nat) : Int), .ref aF, .ref aX, zi ((ln : Nat) : Int), zi ((ta : Nat) : Int), zi sg, zi ((f1 : Nat) : Int), zi ((l1 : Nat) : Int), zi ((f2 : Nat) : Int), zi ((l2 : Nat) : Int)], zAI ct aX 80 (zN tx)] (fun _ : Unit => True) (fun _ => some (zi (((hhF tx a z : Nat) : Int)))) (fun _ => [zO h0 6 [zi th, .ref aS, zi ((sv : Nat) : Int), .ref aF, .ref aX, zi ((ln : Nat) : Int), zi ((ta : Nat) : Int), zi sg, zi ((f1 : Nat) : Int), zi ((l1 : Nat) : Int), zi ((f2 : Nat) : Int), zi ((l2 : Nat) : Int)], zAI ct aX 80 (zN tx)]) 0 0 := by
  refine zMet_i (cc := cX7_hashOfName) (maxL := 5) (r := fun _ => ((hhF tx a z : Nat) : Int)) (by decide) rfl (Nat.le_of_ble_eq_true rfl) ?_
  intro p e s m below meth c A Q Z hnm hR
  refine z_eqs _ [(0, .ref h0), (1, zi ((a : Nat) : Int)), (2, zi ((z : Nat) : Int))] _ rfl rfl rfl ?_
  refine z_bipush (v := 7) Z dX7_hashOfName_0 (by decide +kernel) ?_
  refine z_istore_n Z dX7_hashOfName_2 [(3, zi 7), (0, .ref h0), (1, zi ((a : Nat) : Int)), (2, zi ((z : Nat) : Int))] (by decide) rfl ?_
  refine z_iconst (v := 0) Z dX7_hashOfName_3 rfl ?_
  refine z_istore Z dX7_hashOfName_4 [(4, zi 0), (3, zi 7), (0, .ref h0), (1, zi ((a : Nat) : Int)), (2, zi ((z : Nat) : Int))] (by decide) rfl ?_
  refine z_lsub [2, 3, 4, 1, 0] [(0, .ref h0), (1, zi ((a : Nat) : Int)), (2, zi ((z : Nat) : Int)), (3, zi 7), (4, zi 0)] rfl ?_
  have LOOP6 : ∀ (N0 : Nat) (i : Nat) (x3 : Int) (x4 : Int), z + 1 - i < N0 → x3 = ((hhF tx a i : Nat) : Int) → x4 = ((i : Nat) : Int) → (i ≤ z) → zW p l e ({ frames := 0, cells := 0, slots := 0, locals := 0 } : Room) s m ([.ref h0, zi ((a : Nat) : Int), zi ((z : Nat) : Int)] : List Value).toArray below meth c D A 5 Q 0 0 [zO h0 6 [zi th, .ref aS, zi ((sv : Nat) : Int), .ref aF, .ref aX, zi ((ln : Nat) : Int), zi ((ta : Nat) : Int), zi sg, zi ((f1 : Nat) : Int), zi ((l1 : Nat) : Int), zi ((f2 : Nat) : Int), zi ((l2 : Nat) : Int)], zAI ct aX 80 (zN tx)] [(0, .ref h0), (1, zi ((a : Nat) : Int)), (2, zi ((z : Nat) : Int)), (3, zi x3), (4, zi x4)] 6 [] := by
    intro N0
    induction N0 with
    | zero => intro i x3 x4 hm0; exact absurd hm0 (Nat.not_lt_zero _)
    | succ N0 ih0 =>
      intro i x3 x4 hm0 ex3 ex4 hi
      subst ex3
      subst ex4
      have hl9 := hhF_lt tx a i
      refine z_iload Z dX7_hashOfName_6 4 rfl ?_
      refine z_iload_n Z dX7_hashOfName_8 2 rfl ?_
      refine z_icmp_ge Z 40 dX7_hashOfName_9 (by decide) (by omega) (by omega) (fun h9 => ?_) (fun h9 => ?_)
      · refine z_iload_n Z dX7_hashOfName_40 3 rfl ?_
        refine z_eqs [zO h0 6 [zi th, .ref aS, zi ((sv : Nat) : Int), .ref aF, .ref aX, zi ((ln : Nat) : Int), zi ((ta : Nat) : Int), zi sg, zi ((f1 : Nat) : Int), zi ((l1 : Nat) : Int), zi ((f2 : Nat) : Int), zi ((l2 : Nat) : Int)], zAI ct aX 80 (zN tx)] _ [zi ((hhF tx a z : Nat) : Int)] (rfl) rfl (congrArg (fun z => [zi z]) (by rw [show i = z from by omega])) ?_
        exact hR _ _ () trivial dX7_hashOfName_41
      · have hw9 := hw i (by omega)
        refine z_iconst (v := 5) Z dX7_hashOfName_12 rfl ?_
        refine z_iload_n Z dX7_hashOfName_13 3 rfl ?_
        refine z_imul Z dX7_hashOfName_14 ?_
        refine z_top (y := ((5 * (hhF tx a i) : Nat) : Int)) (by omega) ?_
        refine z_aload_n Z dX7_hashOfName_15 0 rfl ?_
        refine z_get Z dX7_hashOfName_16 zin_X7_hashOfName_X7 0 4 rfl rfl (by decide) zlk_X7_hashOfName_17 rfl ?_
        refine z_iload_n Z dX7_hashOfName_19 1 rfl ?_
        refine z_iload Z dX7_hashOfName_20 4 rfl ?_
        refine z_iadd Z dX7_hashOfName_22 ?_
        refine z_top (y := ((a + i : Nat) : Int)) (by omega) ?_
        refine z_ialdN Z dX7_hashOfName_23 1 (a + i) rfl (rfl) ⟨by omega, by omega⟩ ?_
        have he1 := ht (a + i) (by omega)
        refine z_iadd Z dX7_hashOfName_24 ?_
        refine z_top (y := (((5 * (hhF tx a i)) + (tx (a + i)) : Nat) : Int)) (by omega) ?_
        refine z_bipush (v := 97) Z dX7_hashOfName_25 (by decide +kernel) ?_
        refine z_isub Z dX7_hashOfName_27 ?_
        refine z_top (y := ((((5 * (hhF tx a i)) + (tx (a + i))) - 97 : Nat) : Int)) (by omega) ?_
        refine z_iconst (v := 1) Z dX7_hashOfName_28 rfl ?_
        refine z_iadd Z dX7_hashOfName_29 ?_
        refine z_top (y := (((((5 * (hhF tx a i)) + (tx (a + i))) - 97) + 1 : Nat) : Int)) (by omega) ?_
        refine z_bipush (v := 64) Z dX7_hashOfName_30 (by decide +kernel) ?_
        refine z_irem Z dX7_hashOfName_32 (by omega) (by omega) ?_
        refine z_top (y := ((((((5 * (hhF tx a i)) + (tx (a + i))) - 97) + 1) % 64 : Nat) : Int)) (by omega) ?_
        refine z_istore_n Z dX7_hashOfName_33 [(3, zi ((((((5 * (hhF tx a i)) + (tx (a + i))) - 97) + 1) % 64 : Nat) : Int)), (0, .ref h0), (1, zi ((a : Nat) : Int)), (2, zi ((z : Nat) : Int)), (4, zi ((i : Nat) : Int))] (by decide) rfl ?_
        refine z_iinc (v := ((i + 1 : Nat) : Int)) Z dX7_hashOfName_34 4 [(4, zi ((i + 1 : Nat) : Int)), (3, zi ((((((5 * (hhF tx a i)) + (tx (a + i))) - 97) + 1) % 64 : Nat) : Int)), (0, .ref h0), (1, zi ((a : Nat) : Int)), (2, zi ((z : Nat) : Int))] rfl (by omega) (by decide) rfl ?_
        refine z_goto Z 6 dX7_hashOfName_37 (by decide) ?_
        refine z_lsub [2, 3, 4, 1, 0] [(0, .ref h0), (1, zi ((a : Nat) : Int)), (2, zi ((z : Nat) : Int)), (3, zi ((((((5 * (hhF tx a i)) + (tx (a + i))) - 97) + 1) % 64 : Nat) : Int)), (4, zi ((i + 1 : Nat) : Int))] rfl ?_
        exact ih0 (i + 1) _ _ (by omega) (by show _ = (((5 * hhF tx a i + (tx (a + i) - 96)) % 64 : Nat) : Int); omega) (by first | rfl | omega)  (by first | assumption | omega)
  exact LOOP6 (z + 1 - 0 + 1) 0 _ _ (Nat.lt_succ_self _) (rfl) (by first | rfl | omega)  (by first | assumption | omega)
set_option maxHeartbeats 4000000 in
set_option maxRecDepth 100000 in
theorem zc_X7_nodeAt (l : Launch) (D : va_G) (ct : zCT) (h : Nat) (d : Nat) (hh : h < 64) (hd : d < 7) : zMet l yX7_nodeAt wsX7_nodeAt ({ frames := 0, cells := 0, slots := 0, locals := 0 } : Room) D ct [zi ((h : Nat) : Int), zi ((d : Nat) : Int)] [] (fun _ : Unit => True) (fun _ => some (zi (((ndF h d : Nat) : Int)))) (fun _ => []) 0 0 := by
  refine zMet_i (cc := cX7_nodeAt) (maxL := 2) (r := fun _ => ((ndF h d : Nat) : Int)) (by decide) rfl (Nat.le_of_ble_eq_true rfl) ?_
  intro p e s m below meth c A Q Z hnm hR
  refine z_eqs _ [(0, zi ((h : Nat) : Int)), (1, zi ((d : Nat) : Int))] _ rfl rfl rfl ?_
  refine z_iconst (v := 1) Z dX7_nodeAt_0 rfl ?_
  refine z_iload_n Z dX7_nodeAt_1 1 rfl ?_
  refine z_ishl (v := ((2 ^ d : Nat) : Int)) Z dX7_nodeAt_2 (zq_1shl hd) ?_
  refine z_iload_n Z dX7_nodeAt_3 0 rfl ?_
  refine z_bipush (v := 6) Z dX7_nodeAt_4 (by decide +kernel) ?_
  refine z_iload_n Z dX7_nodeAt_6 1 rfl ?_
  refine z_isub Z dX7_nodeAt_7 ?_
  refine z_top (y := ((6 - d : Nat) : Int)) (by omega) ?_
  refine z_ishr (v := ((h / 2 ^ (6 - d) : Nat) : Int)) Z dX7_nodeAt_8 (zq_shr (by omega) (by omega)) ?_
  refine z_iadd Z dX7_nodeAt_9 ?_
  refine z_top (y := ((ndF h d : Nat) : Int)) (rfl) ?_
  refine z_eqs [] _ [zi ((ndF h d : Nat) : Int)] (rfl) rfl (rfl) ?_
  exact hR _ _ () trivial dX7_nodeAt_10
theorem zin_X7_depthAt_X7 : ∀ w ∈ wsX70, w ∈ wsX7_depthAt := by decide +kernel
theorem zlk_X7_depthAt_7 : Cond.fieldLink RX7 7 "HashedDirectoryModel" "s" "[I" ∈ wsX7_depthAt := by decide +kernel
set_option maxHeartbeats 4000000 in
set_option maxRecDepth 100000 in
theorem zc_X7_depthAt (l : Launch) (D : va_G) (ct : zCT) (h0 : Nat) (aS : Nat) (aF : Nat) (aX : Nat) (th : Int) (sg : Int) (sv : Nat) (ln : Nat) (ta : Nat) (f1 : Nat) (l1 : Nat) (f2 : Nat) (l2 : Nat) (g : Nat → Int) (h : Nat) (hg : ∀ k, k < 432 → -2 ≤ g k ∧ g k < 70000) (hh : h < 64) : zMet l yX7_depthAt wsX7_depthAt ({ frames := 0, cells := 0, slots := 0, locals := 0 } : Room) D ct [.ref h0, zi ((h : Nat) : Int)] [zO h0 6 [zi th, .ref aS, zi ((sv : Nat) : Int), .ref aF, .ref aX, zi ((ln : Nat) : Int), zi ((ta : Nat) : Int), zi sg, zi ((f1 : Nat) : Int), zi ((l1 : Nat) : Int), zi ((f2 : Nat) : Int), zi ((l2 : Nat) : Int)], zAI ct aS 3888 g] (fun _ : Unit => True) (fun _ => some (zi (((dpF g h 6 0 : Nat) : Int)))) (fun _ => [zO h0 6 [zi th, .ref aS, zi ((sv : Nat) : Int), .ref aF, .ref aX, zi ((ln : Nat) : Int), zi ((ta : Nat) : Int), zi sg, zi ((f1 : Nat) : Int), zi ((l1 : Nat) : Int), zi ((f2 : Nat) : Int), zi ((l2 : Nat) : Int)], zAI ct aS 3888 g]) 0 0 := by
  refine zMet_i (cc := cX7_depthAt) (maxL := 4) (r := fun _ => ((dpF g h 6 0 : Nat) : Int)) (by decide) rfl (Nat.le_of_ble_eq_true rfl) ?_
  intro p e s m below meth c A Q Z hnm hR
  refine z_eqs _ [(0, .ref h0), (1, zi ((h : Nat) : Int))] _ rfl rfl rfl ?_
  refine z_iconst (v := 1) Z dX7_depthAt_0 rfl ?_
  refine z_istore_n Z dX7_depthAt_1 [(2, zi 1), (0, .ref h0), (1, zi ((h : Nat) : Int))] (by decide) rfl ?_
  refine z_iconst (v := 0) Z dX7_depthAt_2 rfl ?_
  refine z_istore_n Z dX7_depthAt_3 [(3, zi 0), (2, zi 1), (0, .ref h0), (1, zi ((h : Nat) : Int))] (by decide) rfl ?_
  refine z_lsub [2, 3, 1, 0] [(0, .ref h0), (1, zi ((h : Nat) : Int)), (2, zi 1), (3, zi 0)] rfl ?_
  have LOOP4 : ∀ (N0 : Nat) (d : Nat) (x2 : Int) (x3 : Int), 7 - d < N0 → x2 = ((ndF h d : Nat) : Int) → x3 = ((d : Nat) : Int) → (d ≤ 6) → (dpF g h (6 - d) d = dpF g h 6 0) → zW p l e ({ frames := 0, cells := 0, slots := 0, locals := 0 } : Room) s m ([.ref h0, zi ((h : Nat) : Int)] : List Value).toArray below meth c D A 4 Q 0 0 [zO h0 6 [zi th, .ref aS, zi ((sv : Nat) : Int), .ref aF, .ref aX, zi ((ln : Nat) : Int), zi ((ta : Nat) : Int), zi sg, zi ((f1 : Nat) : Int), zi ((l1 : Nat) : Int), zi ((f2 : Nat) : Int), zi ((l2 : Nat) : Int)], zAI ct aS 3888 g] [(0, .ref h0), (1, zi ((h : Nat) : Int)), (2, zi x2), (3, zi x3)] 4 [] := by
    intro N0
    induction N0 with
    | zero => intro d x2 x3 hm0; exact absurd hm0 (Nat.not_lt_zero _)
    | succ N0 ih0 =>
      intro d x2 x3 hm0 ex2 ex3 hi he
      subst ex2
      subst ex3
      have hn9 := ndF_lt hh (show d < 7 from by omega)
      refine z_iload_n Z dX7_depthAt_4 3 rfl ?_
      refine z_bipush (v := 6) Z dX7_depthAt_5 (by decide +kernel) ?_
      refine z_icmp_ge Z 40 dX7_depthAt_7 (by decide) (by omega) (by omega) (fun h7 => ?_) (fun h7 => ?_)
      · have hz9 : dpF g h 6 0 = d := by rw [← he, show 6 - d = 0 from by omega]; rfl
        refine z_iload_n Z dX7_depthAt_40 3 rfl ?_
        refine z_eqs [zO h0 6 [zi th, .ref aS, zi ((sv : Nat) : Int), .ref aF, .ref aX, zi ((ln : Nat) : Int), zi ((ta : Nat) : Int), zi sg, zi ((f1 : Nat) : Int), zi ((l1 : Nat) : Int), zi ((f2 : Nat) : Int), zi ((l2 : Nat) : Int)], zAI ct aS 3888 g] _ [zi ((dpF g h 6 0 : Nat) : Int)] (rfl) rfl (congrArg (fun z => [zi z]) (by rw [hz9])) ?_
        exact hR _ _ () trivial dX7_depthAt_41
      · refine z_aload_n Z dX7_depthAt_10 0 rfl ?_
        refine z_get Z dX7_depthAt_11 zin_X7_depthAt_X7 0 1 rfl rfl (by decide) zlk_X7_depthAt_7 rfl ?_
        refine z_bipush (v := 8) Z dX7_depthAt_14 (by decide +kernel) ?_
        refine z_iload_n Z dX7_depthAt_16 2 rfl ?_
        refine z_iadd Z dX7_depthAt_17 ?_
        refine z_top (y := ((8 + (ndF h d) : Nat) : Int)) (by omega) ?_
        refine z_iald Z dX7_depthAt_18 1 (8 + (ndF h d)) rfl (rfl) ⟨by omega, by omega⟩ ?_
        have he1 := hg (8 + (ndF h d)) (by omega)
        refine z_iconst (v := 1) Z dX7_depthAt_19 rfl ?_
        refine z_icmp_ne Z 40 dX7_depthAt_20 (by decide) (by omega) (by omega) (fun h20 => ?_) (fun h20 => ?_)
        · have hz9 : dpF g h 6 0 = d := by rw [← he]; exact dpF_stop h20
          refine z_iload_n Z dX7_depthAt_40 3 rfl ?_
          refine z_eqs [zO h0 6 [zi th, .ref aS, zi ((sv : Nat) : Int), .ref aF, .ref aX, zi ((ln : Nat) : Int), zi ((ta : Nat) : Int), zi sg, zi ((f1 : Nat) : Int), zi ((l1 : Nat) : Int), zi ((f2 : Nat) : Int), zi ((l2 : Nat) : Int)], zAI ct aS 3888 g] _ [zi ((dpF g h 6 0 : Nat) : Int)] (rfl) rfl (congrArg (fun z => [zi z]) (by rw [hz9])) ?_
          exact hR _ _ () trivial dX7_depthAt_41
        · refine z_iinc (v := ((d + 1 : Nat) : Int)) Z dX7_depthAt_23 3 [(3, zi ((d + 1 : Nat) : Int)), (0, .ref h0), (1, zi ((h : Nat) : Int)), (2, zi ((ndF h d : Nat) : Int))] rfl (by omega) (by decide) rfl ?_
          refine z_iconst (v := 1) Z dX7_depthAt_26 rfl ?_
          refine z_iload_n Z dX7_depthAt_27 0 rfl ?_
          refine z_ishl (v := ((2 ^ (d + 1) : Nat) : Int)) Z dX7_depthAt_28 (zq_1shl (by omega)) ?_
          refine z_iload_n Z dX7_depthAt_29 2 rfl ?_
          refine z_bipush (v := 6) Z dX7_depthAt_30 (by decide +kernel) ?_
          refine z_iload_n Z dX7_depthAt_32 0 rfl ?_
          refine z_isub Z dX7_depthAt_33 ?_
          refine z_top (y := ((6 - (d + 1) : Nat) : Int)) (by omega) ?_
          refine z_ishr (v := ((h / 2 ^ (6 - (d + 1)) : Nat) : Int)) Z dX7_depthAt_34 (zq_shr (by omega) (by omega)) ?_
          refine z_iadd Z dX7_depthAt_35 ?_
          refine z_top (y := ((ndF h (d + 1) : Nat) : Int)) (rfl) ?_
          refine z_istore_n Z dX7_depthAt_36 [(2, zi ((ndF h (d + 1) : Nat) : Int)), (3, zi ((d + 1 : Nat) : Int)), (0, .ref h0), (1, zi ((h : Nat) : Int))] (by decide) rfl ?_
          refine z_goto Z 4 dX7_depthAt_37 (by decide) ?_
          refine z_lsub [2, 3, 0, 1] [(0, .ref h0), (1, zi ((h : Nat) : Int)), (2, zi ((ndF h (d + 1) : Nat) : Int)), (3, zi ((d + 1 : Nat) : Int))] rfl ?_
          exact ih0 (d + 1) _ _ (by omega) (rfl) (by first | rfl | omega)  (by first | assumption | omega) ((dpF_next (by omega) h20).symm.trans he)
  exact LOOP4 (7 - 0 + 1) 0 _ _ (Nat.lt_succ_self _) (by rw [ndF_0 hh]; rfl) (by first | rfl | omega)  (by first | assumption | omega) (rfl)
theorem zin_X7_beginning_X7 : ∀ w ∈ wsX70, w ∈ wsX7_beginning := by decide +kernel
theorem zlk_X7_beginning_7 : Cond.fieldLink RX7 7 "HashedDirectoryModel" "s" "[I" ∈ wsX7_beginning := by decide +kernel
set_option maxHeartbeats 4000000 in
set_option maxRecDepth 100000 in
theorem zc_X7_beginning (l : Launch) (D : va_G) (ct : zCT) (h0 : Nat) (aS : Nat) (aF : Nat) (aX : Nat) (th : Int) (sg : Int) (sv : Nat) (ln : Nat) (ta : Nat) (f1 : Nat) (l1 : Nat) (f2 : Nat) (l2 : Nat) (g : Nat → Int) (cnt : Nat) (h : Nat) (b : Nat) (hcn : g 0 = ((cnt : Nat) : Int)) (hc : cnt ≤ 40) (hg : ∀ k, k < 432 → -2 ≤ g k ∧ g k < 70000) (hhs : ∀ k, k < 40 → 0 ≤ mI g k 1 ∧ mI g k 1 < 64) (hh : h < 64) (hb : b < 7) : zMet l yX7_beginning wsX7_beginning ({ frames := 1, cells := 0, slots := 0, locals := 22 } : Room) D ct [.ref h0, zi ((h : Nat) : Int), zi ((b : Nat) : Int)] [zO h0 6 [zi th, .ref aS, zi ((sv : Nat) : Int), .ref aF, .ref aX, zi ((ln : Nat) : Int), zi ((ta : Nat) : Int), zi sg, zi ((f1 : Nat) : Int), zi ((l1 : Nat) : Int), zi ((f2 : Nat) : Int), zi ((l2 : Nat) : Int)], zAI ct aS 3888 g] (fun _ : Unit => True) (fun _ => some (zi (((bgF g h b cnt : Nat) : Int)))) (fun _ => [zO h0 6 [zi th, .ref aS, zi ((sv : Nat) : Int), .ref aF, .ref aX, zi ((ln : Nat) : Int), zi ((ta : Nat) : Int), zi sg, zi ((f1 : Nat) : Int), zi ((l1 : Nat) : Int), zi ((f2 : Nat) : Int), zi ((l2 : Nat) : Int)], zAI ct aS 3888 g]) 0 0 := by
  refine zMet_i (cc := cX7_beginning) (maxL := 5) (r := fun _ => ((bgF g h b cnt : Nat) : Int)) (by decide) rfl (Nat.le_of_ble_eq_true rfl) ?_
  intro p e s m below meth c A Q Z hnm hR
  refine z_eqs _ [(0, .ref h0), (1, zi ((h : Nat) : Int)), (2, zi ((b : Nat) : Int))] _ rfl rfl rfl ?_
  refine z_iconst (v := 0) Z dX7_beginning_0 rfl ?_
  refine z_istore_n Z dX7_beginning_1 [(3, zi 0), (0, .ref h0), (1, zi ((h : Nat) : Int)), (2, zi ((b : Nat) : Int))] (by decide) rfl ?_
  refine z_iconst (v := 0) Z dX7_beginning_2 rfl ?_
  refine z_istore Z dX7_beginning_3 [(4, zi 0), (3, zi 0), (0, .ref h0), (1, zi ((h : Nat) : Int)), (2, zi ((b : Nat) : Int))] (by decide) rfl ?_
  refine z_lsub [2, 3, 4, 1, 0] [(0, .ref h0), (1, zi ((h : Nat) : Int)), (2, zi ((b : Nat) : Int)), (3, zi 0), (4, zi 0)] rfl ?_
  have LOOP5 : ∀ (N0 : Nat) (i : Nat) (x3 : Int) (x4 : Int), cnt + 1 - i < N0 → x3 = ((bgF g h b i : Nat) : Int) → x4 = ((i : Nat) : Int) → (i ≤ cnt) → zW p l e ({ frames := 1, cells := 0, slots := 0, locals := 22 } : Room) s m ([.ref h0, zi ((h : Nat) : Int), zi ((b : Nat) : Int)] : List Value).toArray below meth c D A 5 Q 0 0 [zO h0 6 [zi th, .ref aS, zi ((sv : Nat) : Int), .ref aF, .ref aX, zi ((ln : Nat) : Int), zi ((ta : Nat) : Int), zi sg, zi ((f1 : Nat) : Int), zi ((l1 : Nat) : Int), zi ((f2 : Nat) : Int), zi ((l2 : Nat) : Int)], zAI ct aS 3888 g] [(0, .ref h0), (1, zi ((h : Nat) : Int)), (2, zi ((b : Nat) : Int)), (3, zi x3), (4, zi x4)] 5 [] := by
    intro N0
    induction N0 with
    | zero => intro i x3 x4 hm0; exact absurd hm0 (Nat.not_lt_zero _)
    | succ N0 ih0 =>
      intro i x3 x4 hm0 ex3 ex4 hi
      subst ex3
      subst ex4
      have hl9 := bgF_le g h b i
      refine z_iload Z dX7_beginning_5 4 rfl ?_
      refine z_aload_n Z dX7_beginning_7 0 rfl ?_
      refine z_get Z dX7_beginning_8 zin_X7_beginning_X7 0 1 rfl rfl (by decide) zlk_X7_beginning_7 rfl ?_
      refine z_iconst (v := 0) Z dX7_beginning_11 rfl ?_
      refine z_iald Z dX7_beginning_12 1 (0) rfl (by omega) ⟨by omega, by omega⟩ ?_
      have he1 := hg (0) (by omega)
      refine z_icmp_ge Z 51 dX7_beginning_13 (by decide) (by omega) (by omega) (fun h13 => ?_) (fun h13 => ?_)
      · refine z_iload_n Z dX7_beginning_51 3 rfl ?_
        refine z_eqs [zO h0 6 [zi th, .ref aS, zi ((sv : Nat) : Int), .ref aF, .ref aX, zi ((ln : Nat) : Int), zi ((ta : Nat) : Int), zi sg, zi ((f1 : Nat) : Int), zi ((l1 : Nat) : Int), zi ((f2 : Nat) : Int), zi ((l2 : Nat) : Int)], zAI ct aS 3888 g] _ [zi ((bgF g h b cnt : Nat) : Int)] (rfl) rfl (congrArg (fun z => [zi z]) (by rw [show i = cnt from by omega])) ?_
        exact hR _ _ () trivial dX7_beginning_52
      · refine z_iload_n Z dX7_beginning_16 3 rfl ?_
        refine z_aload_n Z dX7_beginning_17 0 rfl ?_
        refine z_iload Z dX7_beginning_18 4 rfl ?_
        refine z_iconst (v := 1) Z dX7_beginning_20 rfl ?_
        refine z_callVu (rest := [zi ((bgF g h b i : Nat) : Int)]) Z dX7_beginning_21 6 0 _ _ rfl rfl rfl (zc_X7_of l D ct (h0) (aS) (aF) (aX) (th) (sg) (sv) (ln) (ta) (f1) (l1) (f2) (l2) (g) (i) (1) (by first | assumption | omega) (by first | assumption | omega)) (cwV 2 Z.1.2.2.2.2 gX7_beginning_X7_of rfl rfl rfl (by decide +kernel) ⟨Nat.le_of_ble_eq_true rfl, Nat.le_of_ble_eq_true rfl⟩) rfl (Nat.le_of_ble_eq_true rfl) ⟨Nat.le_of_ble_eq_true rfl, Nat.le_of_ble_eq_true rfl⟩ [true, true] [zO h0 6 [zi th, .ref aS, zi ((sv : Nat) : Int), .ref aF, .ref aX, zi ((ln : Nat) : Int), zi ((ta : Nat) : Int), zi sg, zi ((f1 : Nat) : Int), zi ((l1 : Nat) : Int), zi ((f2 : Nat) : Int), zi ((l2 : Nat) : Int)], zAI ct aS 3888 g] [zi (mI g i 1), zi ((bgF g h b i : Nat) : Int)] rfl rfl rfl rfl ?_
        have hs9 := hhs i (by omega)
        have ht9 : qF (mI g i 1).toNat (6 - b) ≤ (mI g i 1).toNat := Nat.div_le_self _ _
        have hu9 : qF h (6 - b) ≤ h := Nat.div_le_self _ _
        refine z_bipush (v := 6) Z dX7_beginning_24 (by decide +kernel) ?_
        refine z_iload_n Z dX7_beginning_26 2 rfl ?_
        refine z_isub Z dX7_beginning_27 ?_
        refine z_top (y := ((6 - b : Nat) : Int)) (by omega) ?_
        refine z_ishr (v := ((qF (mI g i 1).toNat (6 - b) : Nat) : Int)) Z dX7_beginning_28 (zq_shrI (by omega) (by omega) (by omega)) ?_
        refine z_iload_n Z dX7_beginning_29 1 rfl ?_
        refine z_bipush (v := 6) Z dX7_beginning_30 (by decide +kernel) ?_
        refine z_iload_n Z dX7_beginning_32 2 rfl ?_
        refine z_isub Z dX7_beginning_33 ?_
        refine z_top (y := ((6 - b : Nat) : Int)) (by omega) ?_
        refine z_ishr (v := ((qF h (6 - b) : Nat) : Int)) Z dX7_beginning_34 (zq_shr (by omega) (by omega)) ?_
        refine z_icmp_ne Z 42 dX7_beginning_35 (by decide) (by omega) (by omega) (fun h35 => ?_) (fun h35 => ?_)
        · refine z_iconst (v := 0) Z dX7_beginning_42 rfl ?_
          refine z_iadd Z dX7_beginning_43 ?_
          refine z_top (y := (((bgF g h b i) + 0 : Nat) : Int)) (by omega) ?_
          refine z_istore_n Z dX7_beginning_44 [(3, zi (((bgF g h b i) + 0 : Nat) : Int)), (0, .ref h0), (1, zi ((h : Nat) : Int)), (2, zi ((b : Nat) : Int)), (4, zi ((i : Nat) : Int))] (by decide) rfl ?_
          refine z_iinc (v := ((i + 1 : Nat) : Int)) Z dX7_beginning_45 4 [(4, zi ((i + 1 : Nat) : Int)), (3, zi (((bgF g h b i) + 0 : Nat) : Int)), (0, .ref h0), (1, zi ((h : Nat) : Int)), (2, zi ((b : Nat) : Int))] rfl (by omega) (by decide) rfl ?_
          refine z_goto Z 5 dX7_beginning_48 (by decide) ?_
          refine z_lsub [2, 3, 4, 1, 0] [(0, .ref h0), (1, zi ((h : Nat) : Int)), (2, zi ((b : Nat) : Int)), (3, zi (((bgF g h b i) + 0 : Nat) : Int)), (4, zi ((i + 1 : Nat) : Int))] rfl ?_
          exact ih0 (i + 1) _ _ (by omega) (by rw [show bgF g h b (i + 1) = bgF g h b i + (if qF (mI g i 1).toNat (6 - b) = qF h (6 - b) then 1 else 0) from rfl]; split <;> omega) (by first | rfl | omega)  (by first | assumption | omega)
        · refine z_iconst (v := 1) Z dX7_beginning_38 rfl ?_
          refine z_goto Z 43 dX7_beginning_39 (by decide) ?_
          refine z_iadd Z dX7_beginning_43 ?_
          refine z_top (y := (((bgF g h b i) + 1 : Nat) : Int)) (by omega) ?_
          refine z_istore_n Z dX7_beginning_44 [(3, zi (((bgF g h b i) + 1 : Nat) : Int)), (0, .ref h0), (1, zi ((h : Nat) : Int)), (2, zi ((b : Nat) : Int)), (4, zi ((i : Nat) : Int))] (by decide) rfl ?_
          refine z_iinc (v := ((i + 1 : Nat) : Int)) Z dX7_beginning_45 4 [(4, zi ((i + 1 : Nat) : Int)), (3, zi (((bgF g h b i) + 1 : Nat) : Int)), (0, .ref h0), (1, zi ((h : Nat) : Int)), (2, zi ((b : Nat) : Int))] rfl (by omega) (by decide) rfl ?_
          refine z_goto Z 5 dX7_beginning_48 (by decide) ?_
          refine z_lsub [2, 3, 4, 1, 0] [(0, .ref h0), (1, zi ((h : Nat) : Int)), (2, zi ((b : Nat) : Int)), (3, zi (((bgF g h b i) + 1 : Nat) : Int)), (4, zi ((i + 1 : Nat) : Int))] rfl ?_
          exact ih0 (i + 1) _ _ (by omega) (by rw [show bgF g h b (i + 1) = bgF g h b i + (if qF (mI g i 1).toNat (6 - b) = qF h (6 - b) then 1 else 0) from rfl]; split <;> omega) (by first | rfl | omega)  (by first | assumption | omega)
  exact LOOP5 (cnt + 1 - 0 + 1) 0 _ _ (Nat.lt_succ_self _) (rfl) (by first | rfl | omega)  (by first | assumption | omega)
theorem zin_X7_isLeafBeside_X7 : ∀ w ∈ wsX70, w ∈ wsX7_isLeafBeside := by decide +kernel
theorem zlk_X7_isLeafBeside_7 : Cond.fieldLink RX7 7 "HashedDirectoryModel" "s" "[I" ∈ wsX7_isLeafBeside := by decide +kernel
set_option maxHeartbeats 4000000 in
set_option maxRecDepth 100000 in
theorem zc_X7_isLeafBeside (l : Launch) (D : va_G) (ct : zCT) (h0 : Nat) (aS : Nat) (aF : Nat) (aX : Nat) (th : Int) (sg : Int) (sv : Nat) (ln : Nat) (ta : Nat) (f1 : Nat) (l1 : Nat) (f2 : Nat) (l2 : Nat) (g : Nat → Int) (h : Nat) (d : Nat) (hg : ∀ k, k < 432 → -2 ≤ g k ∧ g k < 70000) (hh : h < 64) (hd : d < 7) (hd1 : 0 < d) : zMet l yX7_isLeafBeside wsX7_isLeafBeside ({ frames := 1, cells := 0, slots := 0, locals := 21 } : Room) D ct [.ref h0, zi ((h : Nat) : Int), zi ((d : Nat) : Int)] [zO h0 6 [zi th, .ref aS, zi ((sv : Nat) : Int), .ref aF, .ref aX, zi ((ln : Nat) : Int), zi ((ta : Nat) : Int), zi sg, zi ((f1 : Nat) : Int), zi ((l1 : Nat) : Int), zi ((f2 : Nat) : Int), zi ((l2 : Nat) : Int)], zAI ct aS 3888 g] (fun _ : Unit => True) (fun _ => some (zi (zb (decide (d = 6 ∨ g (8 + nsF (ndF h d)) = 0))))) (fun _ => [zO h0 6 [zi th, .ref aS, zi ((sv : Nat) : Int), .ref aF, .ref aX, zi ((ln : Nat) : Int), zi ((ta : Nat) : Int), zi sg, zi ((f1 : Nat) : Int), zi ((l1 : Nat) : Int), zi ((f2 : Nat) : Int), zi ((l2 : Nat) : Int)], zAI ct aS 3888 g]) 0 0 := by
  refine zMet_z (cc := cX7_isLeafBeside) (maxL := 5) (r := fun _ => zb (decide (d = 6 ∨ g (8 + nsF (ndF h d)) = 0))) (by decide) rfl (Nat.le_of_ble_eq_true rfl) (fun _ _ => zb_n _) ?_
  intro p e s m below meth c A Q Z hnm hR
  refine z_eqs _ [(0, .ref h0), (1, zi ((h : Nat) : Int)), (2, zi ((d : Nat) : Int))] _ rfl rfl rfl ?_
  have hn9 := ndF_lt hh hd
  refine z_iload_n Z dX7_isLeafBeside_0 1 rfl ?_
  refine z_iload_n Z dX7_isLeafBeside_1 2 rfl ?_
  refine z_callSu (rest := []) Z dX7_isLeafBeside_2 (zc_X7_nodeAt l D ct (h) (d) (by first | assumption | omega) (by first | assumption | omega)) (va_cwS 2 Z.1.2.2.2.2 gX7_isLeafBeside_X7_nodeAt rfl rfl rfl (by decide +kernel) ⟨Nat.le_of_ble_eq_true rfl, Nat.le_of_ble_eq_true rfl⟩) rfl (Nat.le_of_ble_eq_true rfl) ⟨Nat.le_of_ble_eq_true rfl, Nat.le_of_ble_eq_true rfl⟩ [false, false] [zO h0 6 [zi th, .ref aS, zi ((sv : Nat) : Int), .ref aF, .ref aX, zi ((ln : Nat) : Int), zi ((ta : Nat) : Int), zi sg, zi ((f1 : Nat) : Int), zi ((l1 : Nat) : Int), zi ((f2 : Nat) : Int), zi ((l2 : Nat) : Int)], zAI ct aS 3888 g] [zi ((ndF h d : Nat) : Int)] rfl rfl rfl rfl ?_
  refine z_istore_n Z dX7_isLeafBeside_5 [(3, zi ((ndF h d : Nat) : Int)), (0, .ref h0), (1, zi ((h : Nat) : Int)), (2, zi ((d : Nat) : Int))] (by decide) rfl ?_
  refine z_iload_n Z dX7_isLeafBeside_6 0 rfl ?_
  refine z_iconst (v := 2) Z dX7_isLeafBeside_7 rfl ?_
  refine z_irem Z dX7_isLeafBeside_8 (by omega) (by omega) ?_
  refine z_top (y := (((ndF h d) % 2 : Nat) : Int)) (by omega) ?_
  refine z_if_ne Z 18 dX7_isLeafBeside_9 (by decide) (by omega) (fun h9 => ?_) (fun h9 => ?_)
  · have hs9 : nsF (ndF h d) = ndF h d - 1 := by unfold nsF; rw [if_neg (by omega)]
    refine z_iload_n Z dX7_isLeafBeside_18 0 rfl ?_
    refine z_iconst (v := 1) Z dX7_isLeafBeside_19 rfl ?_
    refine z_isub Z dX7_isLeafBeside_20 ?_
    refine z_top (y := (((ndF h d) - 1 : Nat) : Int)) (by omega) ?_
    refine z_istore Z dX7_isLeafBeside_21 [(4, zi (((ndF h d) - 1 : Nat) : Int)), (3, zi ((ndF h d : Nat) : Int)), (0, .ref h0), (1, zi ((h : Nat) : Int)), (2, zi ((d : Nat) : Int))] (by decide) rfl ?_
    refine z_iload_n Z dX7_isLeafBeside_23 4 rfl ?_
    refine z_bipush (v := 6) Z dX7_isLeafBeside_24 (by decide +kernel) ?_
    refine z_icmp_eq Z 42 dX7_isLeafBeside_26 (by decide) (by omega) (by omega) (fun h26 => ?_) (fun h26 => ?_)
    · refine z_iconst (v := 1) Z dX7_isLeafBeside_42 rfl ?_
      refine z_goto Z 47 dX7_isLeafBeside_43 (by decide) ?_
      refine z_eqs [zO h0 6 [zi th, .ref aS, zi ((sv : Nat) : Int), .ref aF, .ref aX, zi ((ln : Nat) : Int), zi ((ta : Nat) : Int), zi sg, zi ((f1 : Nat) : Int), zi ((l1 : Nat) : Int), zi ((f2 : Nat) : Int), zi ((l2 : Nat) : Int)], zAI ct aS 3888 g] _ [zi (zb (decide (d = 6 ∨ g (8 + nsF (ndF h d)) = 0)))] (rfl) rfl (congrArg (fun z => [zi z]) (zb_p _ (by first | omega | (rw [hs9]; omega)))) ?_
      exact hR _ _ () trivial dX7_isLeafBeside_47
    · have hn8 := ndF_lt5 hh (show d < 6 from by omega)
      have hn7 := ndF_pos h d
      have hn6 : 2 ≤ ndF h d := ndF_2 hd1
      refine z_aload_n Z dX7_isLeafBeside_29 2 rfl ?_
      refine z_get Z dX7_isLeafBeside_30 zin_X7_isLeafBeside_X7 0 1 rfl rfl (by decide) zlk_X7_isLeafBeside_7 rfl ?_
      refine z_bipush (v := 8) Z dX7_isLeafBeside_33 (by decide +kernel) ?_
      refine z_iload Z dX7_isLeafBeside_35 0 rfl ?_
      refine z_iadd Z dX7_isLeafBeside_37 ?_
      refine z_top (y := ((8 + ((ndF h d) - 1) : Nat) : Int)) (by omega) ?_
      refine z_iald Z dX7_isLeafBeside_38 1 (8 + ((ndF h d) - 1)) rfl (rfl) ⟨by omega, by omega⟩ ?_
      have he1 := hg (8 + ((ndF h d) - 1)) (by omega)
      refine z_if_ne Z 46 dX7_isLeafBeside_39 (by decide) (by omega) (fun h39 => ?_) (fun h39 => ?_)
      · refine z_iconst (v := 0) Z dX7_isLeafBeside_46 rfl ?_
        refine z_eqs [zO h0 6 [zi th, .ref aS, zi ((sv : Nat) : Int), .ref aF, .ref aX, zi ((ln : Nat) : Int), zi ((ta : Nat) : Int), zi sg, zi ((f1 : Nat) : Int), zi ((l1 : Nat) : Int), zi ((f2 : Nat) : Int), zi ((l2 : Nat) : Int)], zAI ct aS 3888 g] _ [zi (zb (decide (d = 6 ∨ g (8 + nsF (ndF h d)) = 0)))] (rfl) rfl (congrArg (fun z => [zi z]) (zb_np _ (by rw [hs9]; omega))) ?_
        exact hR _ _ () trivial dX7_isLeafBeside_47
      · refine z_iconst (v := 1) Z dX7_isLeafBeside_42 rfl ?_
        refine z_goto Z 47 dX7_isLeafBeside_43 (by decide) ?_
        refine z_eqs [zO h0 6 [zi th, .ref aS, zi ((sv : Nat) : Int), .ref aF, .ref aX, zi ((ln : Nat) : Int), zi ((ta : Nat) : Int), zi sg, zi ((f1 : Nat) : Int), zi ((l1 : Nat) : Int), zi ((f2 : Nat) : Int), zi ((l2 : Nat) : Int)], zAI ct aS 3888 g] _ [zi (zb (decide (d = 6 ∨ g (8 + nsF (ndF h d)) = 0)))] (rfl) rfl (congrArg (fun z => [zi z]) (zb_p _ (by first | omega | (rw [hs9]; omega)))) ?_
        exact hR _ _ () trivial dX7_isLeafBeside_47
  · have hs9 : nsF (ndF h d) = ndF h d + 1 := by unfold nsF; rw [if_pos (by omega)]
    refine z_iload_n Z dX7_isLeafBeside_12 0 rfl ?_
    refine z_iconst (v := 1) Z dX7_isLeafBeside_13 rfl ?_
    refine z_iadd Z dX7_isLeafBeside_14 ?_
    refine z_top (y := (((ndF h d) + 1 : Nat) : Int)) (by omega) ?_
    refine z_goto Z 21 dX7_isLeafBeside_15 (by decide) ?_
    refine z_istore Z dX7_isLeafBeside_21 [(4, zi (((ndF h d) + 1 : Nat) : Int)), (3, zi ((ndF h d : Nat) : Int)), (0, .ref h0), (1, zi ((h : Nat) : Int)), (2, zi ((d : Nat) : Int))] (by decide) rfl ?_
    refine z_iload_n Z dX7_isLeafBeside_23 4 rfl ?_
    refine z_bipush (v := 6) Z dX7_isLeafBeside_24 (by decide +kernel) ?_
    refine z_icmp_eq Z 42 dX7_isLeafBeside_26 (by decide) (by omega) (by omega) (fun h26 => ?_) (fun h26 => ?_)
    · refine z_iconst (v := 1) Z dX7_isLeafBeside_42 rfl ?_
      refine z_goto Z 47 dX7_isLeafBeside_43 (by decide) ?_
      refine z_eqs [zO h0 6 [zi th, .ref aS, zi ((sv : Nat) : Int), .ref aF, .ref aX, zi ((ln : Nat) : Int), zi ((ta : Nat) : Int), zi sg, zi ((f1 : Nat) : Int), zi ((l1 : Nat) : Int), zi ((f2 : Nat) : Int), zi ((l2 : Nat) : Int)], zAI ct aS 3888 g] _ [zi (zb (decide (d = 6 ∨ g (8 + nsF (ndF h d)) = 0)))] (rfl) rfl (congrArg (fun z => [zi z]) (zb_p _ (by first | omega | (rw [hs9]; omega)))) ?_
      exact hR _ _ () trivial dX7_isLeafBeside_47
    · have hn8 := ndF_lt5 hh (show d < 6 from by omega)
      have hn7 := ndF_pos h d
      have hn6 : 2 ≤ ndF h d := ndF_2 hd1
      refine z_aload_n Z dX7_isLeafBeside_29 2 rfl ?_
      refine z_get Z dX7_isLeafBeside_30 zin_X7_isLeafBeside_X7 0 1 rfl rfl (by decide) zlk_X7_isLeafBeside_7 rfl ?_
      refine z_bipush (v := 8) Z dX7_isLeafBeside_33 (by decide +kernel) ?_
      refine z_iload Z dX7_isLeafBeside_35 0 rfl ?_
      refine z_iadd Z dX7_isLeafBeside_37 ?_
      refine z_top (y := ((8 + ((ndF h d) + 1) : Nat) : Int)) (by omega) ?_
      refine z_iald Z dX7_isLeafBeside_38 1 (8 + ((ndF h d) + 1)) rfl (rfl) ⟨by omega, by omega⟩ ?_
      have he2 := hg (8 + ((ndF h d) + 1)) (by omega)
      refine z_if_ne Z 46 dX7_isLeafBeside_39 (by decide) (by omega) (fun h39 => ?_) (fun h39 => ?_)
      · refine z_iconst (v := 0) Z dX7_isLeafBeside_46 rfl ?_
        refine z_eqs [zO h0 6 [zi th, .ref aS, zi ((sv : Nat) : Int), .ref aF, .ref aX, zi ((ln : Nat) : Int), zi ((ta : Nat) : Int), zi sg, zi ((f1 : Nat) : Int), zi ((l1 : Nat) : Int), zi ((f2 : Nat) : Int), zi ((l2 : Nat) : Int)], zAI ct aS 3888 g] _ [zi (zb (decide (d = 6 ∨ g (8 + nsF (ndF h d)) = 0)))] (rfl) rfl (congrArg (fun z => [zi z]) (zb_np _ (by rw [hs9]; omega))) ?_
        exact hR _ _ () trivial dX7_isLeafBeside_47
      · refine z_iconst (v := 1) Z dX7_isLeafBeside_42 rfl ?_
        refine z_goto Z 47 dX7_isLeafBeside_43 (by decide) ?_
        refine z_eqs [zO h0 6 [zi th, .ref aS, zi ((sv : Nat) : Int), .ref aF, .ref aX, zi ((ln : Nat) : Int), zi ((ta : Nat) : Int), zi sg, zi ((f1 : Nat) : Int), zi ((l1 : Nat) : Int), zi ((f2 : Nat) : Int), zi ((l2 : Nat) : Int)], zAI ct aS 3888 g] _ [zi (zb (decide (d = 6 ∨ g (8 + nsF (ndF h d)) = 0)))] (rfl) rfl (congrArg (fun z => [zi z]) (zb_p _ (by first | omega | (rw [hs9]; omega)))) ?_
        exact hR _ _ () trivial dX7_isLeafBeside_47
theorem zin_X7_leavesNow_X7 : ∀ w ∈ wsX70, w ∈ wsX7_leavesNow := by decide +kernel
theorem zlk_X7_leavesNow_7 : Cond.fieldLink RX7 7 "HashedDirectoryModel" "s" "[I" ∈ wsX7_leavesNow := by decide +kernel
set_option maxHeartbeats 4000000 in
set_option maxRecDepth 100000 in
theorem zc_X7_leavesNow (l : Launch) (D : va_G) (ct : zCT) (h0 : Nat) (aS : Nat) (aF : Nat) (aX : Nat) (th : Int) (sg : Int) (sv : Nat) (ln : Nat) (ta : Nat) (f1 : Nat) (l1 : Nat) (f2 : Nat) (l2 : Nat) (g : Nat → Int)  : zMet l yX7_leavesNow wsX7_leavesNow ({ frames := 0, cells := 0, slots := 0, locals := 0 } : Room) D ct [.ref h0] [zO h0 6 [zi th, .ref aS, zi ((sv : Nat) : Int), .ref aF, .ref aX, zi ((ln : Nat) : Int), zi ((ta : Nat) : Int), zi sg, zi ((f1 : Nat) : Int), zi ((l1 : Nat) : Int), zi ((f2 : Nat) : Int), zi ((l2 : Nat) : Int)], zAI ct aS 3888 g] (fun _ : Unit => True) (fun _ => some (zi ((1 + g 2 - g 3)))) (fun _ => [zO h0 6 [zi th, .ref aS, zi ((sv : Nat) : Int), .ref aF, .ref aX, zi ((ln : Nat) : Int), zi ((ta : Nat) : Int), zi sg, zi ((f1 : Nat) : Int), zi ((l1 : Nat) : Int), zi ((f2 : Nat) : Int), zi ((l2 : Nat) : Int)], zAI ct aS 3888 g]) 0 0 := by
  refine zMet_i (cc := cX7_leavesNow) (maxL := 1) (r := fun _ => (1 + g 2 - g 3)) (by decide) rfl (Nat.le_of_ble_eq_true rfl) ?_
  intro p e s m below meth c A Q Z hnm hR
  refine z_eqs _ [(0, .ref h0)] _ rfl rfl rfl ?_
  refine z_iconst (v := 1) Z dX7_leavesNow_0 rfl ?_
  refine z_aload_n Z dX7_leavesNow_1 0 rfl ?_
  refine z_get Z dX7_leavesNow_2 zin_X7_leavesNow_X7 0 1 rfl rfl (by decide) zlk_X7_leavesNow_7 rfl ?_
  refine z_iconst (v := 2) Z dX7_leavesNow_5 rfl ?_
  refine z_iald Z dX7_leavesNow_6 1 (2) rfl (by omega) ⟨by omega, by omega⟩ ?_
  refine z_iadd Z dX7_leavesNow_7 ?_
  refine z_aload_n Z dX7_leavesNow_8 0 rfl ?_
  refine z_get Z dX7_leavesNow_9 zin_X7_leavesNow_X7 0 1 rfl rfl (by decide) zlk_X7_leavesNow_7 rfl ?_
  refine z_iconst (v := 3) Z dX7_leavesNow_12 rfl ?_
  refine z_iald Z dX7_leavesNow_13 1 (3) rfl (by omega) ⟨by omega, by omega⟩ ?_
  refine z_isub Z dX7_leavesNow_14 ?_
  refine z_eqs [zO h0 6 [zi th, .ref aS, zi ((sv : Nat) : Int), .ref aF, .ref aX, zi ((ln : Nat) : Int), zi ((ta : Nat) : Int), zi sg, zi ((f1 : Nat) : Int), zi ((l1 : Nat) : Int), zi ((f2 : Nat) : Int), zi ((l2 : Nat) : Int)], zAI ct aS 3888 g] _ [zi (1 + g 2 - g 3)] (rfl) rfl (congrArg (fun z => [zi z]) (by omega)) ?_
  exact hR _ _ () trivial dX7_leavesNow_15
theorem zin_X7_splitsFor_X7 : ∀ w ∈ wsX70, w ∈ wsX7_splitsFor := by decide +kernel
theorem zlk_X7_splitsFor_7 : Cond.fieldLink RX7 7 "HashedDirectoryModel" "s" "[I" ∈ wsX7_splitsFor := by decide +kernel
set_option maxHeartbeats 4000000 in
set_option maxRecDepth 100000 in
theorem zc_X7_splitsFor (l : Launch) (D : va_G) (ct : zCT) (h0 : Nat) (aS : Nat) (aF : Nat) (aX : Nat) (th : Int) (sg : Int) (sv : Nat) (ln : Nat) (ta : Nat) (f1 : Nat) (l1 : Nat) (f2 : Nat) (l2 : Nat) (g : Nat → Int) (cnt : Nat) (h : Nat) (hcn : g 0 = ((cnt : Nat) : Int)) (hc : cnt ≤ 40) (hg : ∀ k, k < 432 → -2 ≤ g k ∧ g k < 70000) (hhs : ∀ k, k < 40 → 0 ≤ mI g k 1 ∧ mI g k 1 < 64) (hh : h < 64) (h2 : 0 ≤ g 2 ∧ g 2 < 60000) (h3 : 0 ≤ g 3 ∧ g 3 < 60000) : zMet l yX7_splitsFor wsX7_splitsFor ({ frames := 2, cells := 0, slots := 0, locals := 46 } : Room) D ct [.ref h0, zi ((h : Nat) : Int)] [zO h0 6 [zi th, .ref aS, zi ((sv : Nat) : Int), .ref aF, .ref aX, zi ((ln : Nat) : Int), zi ((ta : Nat) : Int), zi sg, zi ((f1 : Nat) : Int), zi ((l1 : Nat) : Int), zi ((f2 : Nat) : Int), zi ((l2 : Nat) : Int)], zAI ct aS 3888 g] (fun _ : Unit => True) (fun _ => none) (fun _ => [zO h0 6 [zi th, .ref aS, zi ((sv : Nat) : Int), .ref aF, .ref aX, zi ((ln : Nat) : Int), zi ((ta : Nat) : Int), zi sg, zi ((f1 : Nat) : Int), zi ((l1 : Nat) : Int), zi ((f2 : Nat) : Int), zi ((l2 : Nat) : Int)], zAI ct aS 3888 (msF h cnt (6 - dpF g h 6 0) (dpF g h 6 0) g)]) 0 0 := by
  refine zMet_v (cc := cX7_splitsFor) (maxL := 3) (by decide) rfl (Nat.le_of_ble_eq_true rfl) ?_
  intro p e s m below meth c A Q Z hnm hR
  refine z_eqs _ [(0, .ref h0), (1, zi ((h : Nat) : Int))] _ rfl rfl rfl ?_
  refine z_aload_n Z dX7_splitsFor_0 0 rfl ?_
  refine z_iload_n Z dX7_splitsFor_1 1 rfl ?_
  refine z_callVu (rest := []) Z dX7_splitsFor_2 6 0 _ _ rfl rfl rfl (zc_X7_depthAt l D ct (h0) (aS) (aF) (aX) (th) (sg) (sv) (ln) (ta) (f1) (l1) (f2) (l2) (g) (h) (by first | assumption | omega) (by first | assumption | omega)) (cwV 1 Z.1.2.2.2.2 gX7_splitsFor_X7_depthAt rfl rfl rfl (by decide +kernel) ⟨Nat.le_of_ble_eq_true rfl, Nat.le_of_ble_eq_true rfl⟩) rfl (Nat.le_of_ble_eq_true rfl) ⟨Nat.le_of_ble_eq_true rfl, Nat.le_of_ble_eq_true rfl⟩ [true, true] [zO h0 6 [zi th, .ref aS, zi ((sv : Nat) : Int), .ref aF, .ref aX, zi ((ln : Nat) : Int), zi ((ta : Nat) : Int), zi sg, zi ((f1 : Nat) : Int), zi ((l1 : Nat) : Int), zi ((f2 : Nat) : Int), zi ((l2 : Nat) : Int)], zAI ct aS 3888 g] [zi ((dpF g h 6 0 : Nat) : Int)] rfl rfl rfl rfl ?_
  have hd9 := dpF_le g h 6 0
  refine z_istore_n Z dX7_splitsFor_5 [(2, zi ((dpF g h 6 0 : Nat) : Int)), (0, .ref h0), (1, zi ((h : Nat) : Int))] (by decide) rfl ?_
  refine z_lsub [1, 2, 0] [(0, .ref h0), (1, zi ((h : Nat) : Int)), (2, zi ((dpF g h 6 0 : Nat) : Int))] rfl ?_
  have LOOP6 : ∀ (N0 : Nat) (d : Nat) (gg : Nat → Int) (x2 : Int), 7 - d < N0 → x2 = ((d : Nat) : Int) → (d ≤ 6) → (gg 0 = ((cnt : Nat) : Int)) → (∀ k, k < 432 → -2 ≤ gg k ∧ gg k < 70000) → (∀ k, k < 40 → 0 ≤ mI gg k 1 ∧ mI gg k 1 < 64) → (0 ≤ gg 2 ∧ gg 2 ≤ g 2 + ((d : Nat) : Int)) → (msF h cnt (6 - d) d gg = msF h cnt (6 - dpF g h 6 0) (dpF g h 6 0) g) → zW p l e ({ frames := 2, cells := 0, slots := 0, locals := 46 } : Room) s m ([.ref h0, zi ((h : Nat) : Int)] : List Value).toArray below meth c D A 3 Q 0 0 [zO h0 6 [zi th, .ref aS, zi ((sv : Nat) : Int), .ref aF, .ref aX, zi ((ln : Nat) : Int), zi ((ta : Nat) : Int), zi sg, zi ((f1 : Nat) : Int), zi ((l1 : Nat) : Int), zi ((f2 : Nat) : Int), zi ((l2 : Nat) : Int)], zAI ct aS 3888 gg] [(0, .ref h0), (1, zi ((h : Nat) : Int)), (2, zi x2)] 6 [] := by
    intro N0
    induction N0 with
    | zero => intro d gg x2 hm0; exact absurd hm0 (Nat.not_lt_zero _)
    | succ N0 ih0 =>
      intro d gg x2 hm0 ex2 hi hcq hgq hsq h2q he
      subst ex2
      refine z_iload_n Z dX7_splitsFor_6 2 rfl ?_
      refine z_bipush (v := 6) Z dX7_splitsFor_7 (by decide +kernel) ?_
      refine z_icmp_ge Z 52 dX7_splitsFor_9 (by decide) (by omega) (by omega) (fun h9 => ?_) (fun h9 => ?_)
      · have hz9 : msF h cnt (6 - dpF g h 6 0) (dpF g h 6 0) g = gg := by rw [← he, show 6 - d = 0 from by omega]; rfl
        refine z_eqs [zO h0 6 [zi th, .ref aS, zi ((sv : Nat) : Int), .ref aF, .ref aX, zi ((ln : Nat) : Int), zi ((ta : Nat) : Int), zi sg, zi ((f1 : Nat) : Int), zi ((l1 : Nat) : Int), zi ((f2 : Nat) : Int), zi ((l2 : Nat) : Int)], zAI ct aS 3888 (msF h cnt (6 - dpF g h 6 0) (dpF g h 6 0) g)] _ [] (by rw [hz9]) rfl (rfl) ?_
        exact hR _ _ () trivial dX7_splitsFor_52
      · refine z_aload_n Z dX7_splitsFor_12 0 rfl ?_
        refine z_iload_n Z dX7_splitsFor_13 1 rfl ?_
        refine z_iload_n Z dX7_splitsFor_14 2 rfl ?_
        refine z_callVu (rest := []) Z dX7_splitsFor_15 6 0 _ _ rfl rfl rfl (zc_X7_beginning l D ct (h0) (aS) (aF) (aX) (th) (sg) (sv) (ln) (ta) (f1) (l1) (f2) (l2) (gg) (cnt) (h) (d) (hcq) (by first | assumption | omega) (hgq) (hsq) (by first | assumption | omega) (by first | assumption | omega)) (cwV 2 Z.1.2.2.2.2 gX7_splitsFor_X7_beginning rfl rfl rfl (by decide +kernel) ⟨Nat.le_of_ble_eq_true rfl, Nat.le_of_ble_eq_true rfl⟩) rfl (Nat.le_of_ble_eq_true rfl) ⟨Nat.le_of_ble_eq_true rfl, Nat.le_of_ble_eq_true rfl⟩ [true, true] [zO h0 6 [zi th, .ref aS, zi ((sv : Nat) : Int), .ref aF, .ref aX, zi ((ln : Nat) : Int), zi ((ta : Nat) : Int), zi sg, zi ((f1 : Nat) : Int), zi ((l1 : Nat) : Int), zi ((f2 : Nat) : Int), zi ((l2 : Nat) : Int)], zAI ct aS 3888 gg] [zi ((bgF gg h d cnt : Nat) : Int)] rfl rfl rfl rfl ?_
        have hl9 := bgF_le gg h d cnt
        refine z_iconst (v := 4) Z dX7_splitsFor_18 rfl ?_
        refine z_icmp_le Z 52 dX7_splitsFor_19 (by decide) (by omega) (by omega) (fun h19 => ?_) (fun h19 => ?_)
        · have hz9 : msF h cnt (6 - dpF g h 6 0) (dpF g h 6 0) g = gg := by rw [← he]; exact msF_stop (by omega)
          refine z_eqs [zO h0 6 [zi th, .ref aS, zi ((sv : Nat) : Int), .ref aF, .ref aX, zi ((ln : Nat) : Int), zi ((ta : Nat) : Int), zi sg, zi ((f1 : Nat) : Int), zi ((l1 : Nat) : Int), zi ((f2 : Nat) : Int), zi ((l2 : Nat) : Int)], zAI ct aS 3888 (msF h cnt (6 - dpF g h 6 0) (dpF g h 6 0) g)] _ [] (by rw [hz9]) rfl (rfl) ?_
          exact hR _ _ () trivial dX7_splitsFor_52
        · refine z_aload_n Z dX7_splitsFor_22 0 rfl ?_
          refine z_get Z dX7_splitsFor_23 zin_X7_splitsFor_X7 0 1 rfl rfl (by decide) zlk_X7_splitsFor_7 rfl ?_
          refine z_bipush (v := 8) Z dX7_splitsFor_26 (by decide +kernel) ?_
          refine z_iload_n Z dX7_splitsFor_28 1 rfl ?_
          refine z_iload_n Z dX7_splitsFor_29 2 rfl ?_
          refine z_callSu (rest := [zi 8, .ref aS]) Z dX7_splitsFor_30 (zc_X7_nodeAt l D ct (h) (d) (by first | assumption | omega) (by first | assumption | omega)) (va_cwS 2 Z.1.2.2.2.2 gX7_splitsFor_X7_nodeAt rfl rfl rfl (by decide +kernel) ⟨Nat.le_of_ble_eq_true rfl, Nat.le_of_ble_eq_true rfl⟩) rfl (Nat.le_of_ble_eq_true rfl) ⟨Nat.le_of_ble_eq_true rfl, Nat.le_of_ble_eq_true rfl⟩ [false, false] [zO h0 6 [zi th, .ref aS, zi ((sv : Nat) : Int), .ref aF, .ref aX, zi ((ln : Nat) : Int), zi ((ta : Nat) : Int), zi sg, zi ((f1 : Nat) : Int), zi ((l1 : Nat) : Int), zi ((f2 : Nat) : Int), zi ((l2 : Nat) : Int)], zAI ct aS 3888 gg] [zi ((ndF h d : Nat) : Int), zi 8, .ref aS] rfl rfl rfl rfl ?_
          have hn9 := ndF_lt5 hh (show d < 6 from by omega)
          refine z_iadd Z dX7_splitsFor_33 ?_
          refine z_top (y := ((8 + (ndF h d) : Nat) : Int)) (by omega) ?_
          refine z_iconst (v := 1) Z dX7_splitsFor_34 rfl ?_
          refine z_iast Z dX7_splitsFor_35 1 (8 + (ndF h d)) [zO h0 6 [zi th, .ref aS, zi ((sv : Nat) : Int), .ref aF, .ref aX, zi ((ln : Nat) : Int), zi ((ta : Nat) : Int), zi sg, zi ((f1 : Nat) : Int), zi ((l1 : Nat) : Int), zi ((f2 : Nat) : Int), zi ((l2 : Nat) : Int)], zAI ct aS 3888 (zU gg (8 + (ndF h d)) 1)] rfl (rfl) ⟨by omega, by omega⟩ rfl ?_
          refine z_aload_n Z dX7_splitsFor_36 0 rfl ?_
          refine z_get Z dX7_splitsFor_37 zin_X7_splitsFor_X7 0 1 rfl rfl (by decide) zlk_X7_splitsFor_7 rfl ?_
          refine z_iconst (v := 2) Z dX7_splitsFor_40 rfl ?_
          refine z_dup2 Z dX7_splitsFor_41 rfl rfl ?_
          refine z_iald Z dX7_splitsFor_42 1 (2) rfl (by omega) ⟨by omega, by omega⟩ ?_
          refine z_iconst (v := 1) Z dX7_splitsFor_43 rfl ?_
          refine z_iadd Z dX7_splitsFor_44 ?_
          refine z_iast Z dX7_splitsFor_45 1 (2) [zO h0 6 [zi th, .ref aS, zi ((sv : Nat) : Int), .ref aF, .ref aX, zi ((ln : Nat) : Int), zi ((ta : Nat) : Int), zi sg, zi ((f1 : Nat) : Int), zi ((l1 : Nat) : Int), zi ((f2 : Nat) : Int), zi ((l2 : Nat) : Int)], zAI ct aS 3888 (zU (zU gg (8 + (ndF h d)) 1) 2 (((zU gg (8 + (ndF h d)) 1) 2) + 1))] rfl (by omega) ⟨by omega, by omega⟩ rfl ?_
          refine z_iinc (v := ((d + 1 : Nat) : Int)) Z dX7_splitsFor_46 2 [(2, zi ((d + 1 : Nat) : Int)), (0, .ref h0), (1, zi ((h : Nat) : Int))] rfl (by omega) (by decide) rfl ?_
          refine z_goto Z 6 dX7_splitsFor_49 (by decide) ?_
          refine z_lsub [1, 2, 0] [(0, .ref h0), (1, zi ((h : Nat) : Int)), (2, zi ((d + 1 : Nat) : Int))] rfl ?_
          exact ih0 (d + 1) (zU (zU gg (8 + (ndF h d)) 1) 2 (((zU gg (8 + (ndF h d)) 1) 2) + 1)) _ (by omega) (by first | rfl | omega)  (by first | assumption | omega) (by rw [zU_n _ _ (by omega), zU_n _ _ (by omega)]; exact hcq) (zU2_rg hgq (by omega) (by rw [zU_n _ _ (by omega)]; omega)) (zU2_hs hsq (by omega) (by omega)) (by rw [zU_s, zU_n _ _ (by omega)]; omega) (by rw [zU_n _ _ (by omega)]; exact (msF_next (by omega) (by omega)).symm.trans he)
  exact LOOP6 (7 - (dpF g h 6 0) + 1) (dpF g h 6 0) g _ (Nat.lt_succ_self _) (by first | rfl | omega)  (by first | assumption | omega) (by first | assumption | omega) (hg) (hhs) (by first | assumption | omega) (rfl)
theorem zin_X7_mergesFor_X7 : ∀ w ∈ wsX70, w ∈ wsX7_mergesFor := by decide +kernel
theorem zlk_X7_mergesFor_7 : Cond.fieldLink RX7 7 "HashedDirectoryModel" "s" "[I" ∈ wsX7_mergesFor := by decide +kernel
set_option maxHeartbeats 4000000 in
set_option maxRecDepth 100000 in
theorem zc_X7_mergesFor (l : Launch) (D : va_G) (ct : zCT) (h0 : Nat) (aS : Nat) (aF : Nat) (aX : Nat) (th : Int) (sg : Int) (sv : Nat) (ln : Nat) (ta : Nat) (f1 : Nat) (l1 : Nat) (f2 : Nat) (l2 : Nat) (g : Nat → Int) (cnt : Nat) (h : Nat) (hcn : g 0 = ((cnt : Nat) : Int)) (hc : cnt ≤ 40) (hg : ∀ k, k < 432 → -2 ≤ g k ∧ g k < 70000) (hhs : ∀ k, k < 40 → 0 ≤ mI g k 1 ∧ mI g k 1 < 64) (hh : h < 64) (h2 : 0 ≤ g 2 ∧ g 2 < 60000) (h3 : 0 ≤ g 3 ∧ g 3 < 60000) : zMet l yX7_mergesFor wsX7_mergesFor ({ frames := 2, cells := 0, slots := 0, locals := 46 } : Room) D ct [.ref h0, zi ((h : Nat) : Int)] [zO h0 6 [zi th, .ref aS, zi ((sv : Nat) : Int), .ref aF, .ref aX, zi ((ln : Nat) : Int), zi ((ta : Nat) : Int), zi sg, zi ((f1 : Nat) : Int), zi ((l1 : Nat) : Int), zi ((f2 : Nat) : Int), zi ((l2 : Nat) : Int)], zAI ct aS 3888 g] (fun _ : Unit => True) (fun _ => none) (fun _ => [zO h0 6 [zi th, .ref aS, zi ((sv : Nat) : Int), .ref aF, .ref aX, zi ((ln : Nat) : Int), zi ((ta : Nat) : Int), zi sg, zi ((f1 : Nat) : Int), zi ((l1 : Nat) : Int), zi ((f2 : Nat) : Int), zi ((l2 : Nat) : Int)], zAI ct aS 3888 (mgM h cnt (dpF g h 6 0) g)]) 0 0 := by
  refine zMet_v (cc := cX7_mergesFor) (maxL := 3) (by decide) rfl (Nat.le_of_ble_eq_true rfl) ?_
  intro p e s m below meth c A Q Z hnm hR
  refine z_eqs _ [(0, .ref h0), (1, zi ((h : Nat) : Int))] _ rfl rfl rfl ?_
  refine z_aload_n Z dX7_mergesFor_0 0 rfl ?_
  refine z_iload_n Z dX7_mergesFor_1 1 rfl ?_
  refine z_callVu (rest := []) Z dX7_mergesFor_2 6 0 _ _ rfl rfl rfl (zc_X7_depthAt l D ct (h0) (aS) (aF) (aX) (th) (sg) (sv) (ln) (ta) (f1) (l1) (f2) (l2) (g) (h) (by first | assumption | omega) (by first | assumption | omega)) (cwV 1 Z.1.2.2.2.2 gX7_mergesFor_X7_depthAt rfl rfl rfl (by decide +kernel) ⟨Nat.le_of_ble_eq_true rfl, Nat.le_of_ble_eq_true rfl⟩) rfl (Nat.le_of_ble_eq_true rfl) ⟨Nat.le_of_ble_eq_true rfl, Nat.le_of_ble_eq_true rfl⟩ [true, true] [zO h0 6 [zi th, .ref aS, zi ((sv : Nat) : Int), .ref aF, .ref aX, zi ((ln : Nat) : Int), zi ((ta : Nat) : Int), zi sg, zi ((f1 : Nat) : Int), zi ((l1 : Nat) : Int), zi ((f2 : Nat) : Int), zi ((l2 : Nat) : Int)], zAI ct aS 3888 g] [zi ((dpF g h 6 0 : Nat) : Int)] rfl rfl rfl rfl ?_
  have hd9 := dpF_le g h 6 0
  refine z_istore_n Z dX7_mergesFor_5 [(2, zi ((dpF g h 6 0 : Nat) : Int)), (0, .ref h0), (1, zi ((h : Nat) : Int))] (by decide) rfl ?_
  refine z_lsub [1, 2, 0] [(0, .ref h0), (1, zi ((h : Nat) : Int)), (2, zi ((dpF g h 6 0 : Nat) : Int))] rfl ?_
  have LOOP6 : ∀ (N0 : Nat) (d : Nat) (gg : Nat → Int) (x2 : Int), d + 1 < N0 → x2 = ((d : Nat) : Int) → (d ≤ 6) → (gg 0 = ((cnt : Nat) : Int)) → (∀ k, k < 432 → -2 ≤ gg k ∧ gg k < 70000) → (∀ k, k < 40 → 0 ≤ mI gg k 1 ∧ mI gg k 1 < 64) → (0 ≤ gg 3 ∧ gg 3 ≤ g 3 + 6 - ((d : Nat) : Int)) → (mgM h cnt d gg = mgM h cnt (dpF g h 6 0) g) → zW p l e ({ frames := 2, cells := 0, slots := 0, locals := 46 } : Room) s m ([.ref h0, zi ((h : Nat) : Int)] : List Value).toArray below meth c D A 3 Q 0 0 [zO h0 6 [zi th, .ref aS, zi ((sv : Nat) : Int), .ref aF, .ref aX, zi ((ln : Nat) : Int), zi ((ta : Nat) : Int), zi sg, zi ((f1 : Nat) : Int), zi ((l1 : Nat) : Int), zi ((f2 : Nat) : Int), zi ((l2 : Nat) : Int)], zAI ct aS 3888 gg] [(0, .ref h0), (1, zi ((h : Nat) : Int)), (2, zi x2)] 6 [] := by
    intro N0
    induction N0 with
    | zero => intro d gg x2 hm0; exact absurd hm0 (Nat.not_lt_zero _)
    | succ N0 ih0 =>
      intro d gg x2 hm0 ex2 hi hcq hgq hsq h2q he
      subst ex2
      refine z_iload_n Z dX7_mergesFor_6 2 rfl ?_
      refine z_if_le Z 61 dX7_mergesFor_7 (by decide) (by omega) (fun h7 => ?_) (fun h7 => ?_)
      · have hz9 : mgM h cnt (dpF g h 6 0) g = gg := by rw [← he, show d = 0 from by omega]; rfl
        refine z_eqs [zO h0 6 [zi th, .ref aS, zi ((sv : Nat) : Int), .ref aF, .ref aX, zi ((ln : Nat) : Int), zi ((ta : Nat) : Int), zi sg, zi ((f1 : Nat) : Int), zi ((l1 : Nat) : Int), zi ((f2 : Nat) : Int), zi ((l2 : Nat) : Int)], zAI ct aS 3888 (mgM h cnt (dpF g h 6 0) g)] _ [] (by rw [hz9]) rfl (rfl) ?_
        exact hR _ _ () trivial dX7_mergesFor_61
      · refine z_aload_n Z dX7_mergesFor_10 0 rfl ?_
        refine z_iload_n Z dX7_mergesFor_11 1 rfl ?_
        refine z_iload_n Z dX7_mergesFor_12 2 rfl ?_
        refine z_iconst (v := 1) Z dX7_mergesFor_13 rfl ?_
        refine z_isub Z dX7_mergesFor_14 ?_
        refine z_top (y := ((d - 1 : Nat) : Int)) (by omega) ?_
        refine z_callVu (rest := []) Z dX7_mergesFor_15 6 0 _ _ rfl rfl rfl (zc_X7_beginning l D ct (h0) (aS) (aF) (aX) (th) (sg) (sv) (ln) (ta) (f1) (l1) (f2) (l2) (gg) (cnt) (h) (d - 1) (hcq) (by first | assumption | omega) (hgq) (hsq) (by first | assumption | omega) (by first | assumption | omega)) (cwV 2 Z.1.2.2.2.2 gX7_mergesFor_X7_beginning rfl rfl rfl (by decide +kernel) ⟨Nat.le_of_ble_eq_true rfl, Nat.le_of_ble_eq_true rfl⟩) rfl (Nat.le_of_ble_eq_true rfl) ⟨Nat.le_of_ble_eq_true rfl, Nat.le_of_ble_eq_true rfl⟩ [true, true] [zO h0 6 [zi th, .ref aS, zi ((sv : Nat) : Int), .ref aF, .ref aX, zi ((ln : Nat) : Int), zi ((ta : Nat) : Int), zi sg, zi ((f1 : Nat) : Int), zi ((l1 : Nat) : Int), zi ((f2 : Nat) : Int), zi ((l2 : Nat) : Int)], zAI ct aS 3888 gg] [zi ((bgF gg h (d - 1) cnt : Nat) : Int)] rfl rfl rfl rfl ?_
        have hl9 := bgF_le gg h (d - 1) cnt
        refine z_iconst (v := 2) Z dX7_mergesFor_18 rfl ?_
        refine z_icmp_gt Z 61 dX7_mergesFor_19 (by decide) (by omega) (by omega) (fun h19 => ?_) (fun h19 => ?_)
        · have hz9 : mgM h cnt (dpF g h 6 0) g = gg := by rw [← he]; exact mgM_stop1 (by omega) (by omega)
          refine z_eqs [zO h0 6 [zi th, .ref aS, zi ((sv : Nat) : Int), .ref aF, .ref aX, zi ((ln : Nat) : Int), zi ((ta : Nat) : Int), zi sg, zi ((f1 : Nat) : Int), zi ((l1 : Nat) : Int), zi ((f2 : Nat) : Int), zi ((l2 : Nat) : Int)], zAI ct aS 3888 (mgM h cnt (dpF g h 6 0) g)] _ [] (by rw [hz9]) rfl (rfl) ?_
          exact hR _ _ () trivial dX7_mergesFor_61
        · refine z_aload_n Z dX7_mergesFor_22 0 rfl ?_
          refine z_iload_n Z dX7_mergesFor_23 1 rfl ?_
          refine z_iload_n Z dX7_mergesFor_24 2 rfl ?_
          refine z_callVu (rest := []) Z dX7_mergesFor_25 6 0 _ _ rfl rfl rfl (zc_X7_isLeafBeside l D ct (h0) (aS) (aF) (aX) (th) (sg) (sv) (ln) (ta) (f1) (l1) (f2) (l2) (gg) (h) (d) (hgq) (by first | assumption | omega) (by first | assumption | omega) (by first | assumption | omega)) (cwV 2 Z.1.2.2.2.2 gX7_mergesFor_X7_isLeafBeside rfl rfl rfl (by decide +kernel) ⟨Nat.le_of_ble_eq_true rfl, Nat.le_of_ble_eq_true rfl⟩) rfl (Nat.le_of_ble_eq_true rfl) ⟨Nat.le_of_ble_eq_true rfl, Nat.le_of_ble_eq_true rfl⟩ [true, true] [zO h0 6 [zi th, .ref aS, zi ((sv : Nat) : Int), .ref aF, .ref aX, zi ((ln : Nat) : Int), zi ((ta : Nat) : Int), zi sg, zi ((f1 : Nat) : Int), zi ((l1 : Nat) : Int), zi ((f2 : Nat) : Int), zi ((l2 : Nat) : Int)], zAI ct aS 3888 gg] [zi (zb (decide (d = 6 ∨ gg (8 + nsF (ndF h d)) = 0)))] rfl rfl rfl rfl ?_
          refine z_ifb_eq Z 61 dX7_mergesFor_28 (by decide) (fun h28 => ?_) (fun h28 => ?_)
          · have h28 := of_decide_eq_false h28
            have hz9 : mgM h cnt (dpF g h 6 0) g = gg := by rw [← he]; exact mgM_stop2 (by omega) h28
            refine z_eqs [zO h0 6 [zi th, .ref aS, zi ((sv : Nat) : Int), .ref aF, .ref aX, zi ((ln : Nat) : Int), zi ((ta : Nat) : Int), zi sg, zi ((f1 : Nat) : Int), zi ((l1 : Nat) : Int), zi ((f2 : Nat) : Int), zi ((l2 : Nat) : Int)], zAI ct aS 3888 (mgM h cnt (dpF g h 6 0) g)] _ [] (by rw [hz9]) rfl (rfl) ?_
            exact hR _ _ () trivial dX7_mergesFor_61
          · have h28 := of_decide_eq_true h28
            refine z_iinc (v := ((d - 1 : Nat) : Int)) Z dX7_mergesFor_31 2 [(2, zi ((d - 1 : Nat) : Int)), (0, .ref h0), (1, zi ((h : Nat) : Int))] rfl (by omega) (by decide) rfl ?_
            refine z_aload_n Z dX7_mergesFor_34 1 rfl ?_
            refine z_get Z dX7_mergesFor_35 zin_X7_mergesFor_X7 0 1 rfl rfl (by decide) zlk_X7_mergesFor_7 rfl ?_
            refine z_bipush (v := 8) Z dX7_mergesFor_38 (by decide +kernel) ?_
            refine z_iload_n Z dX7_mergesFor_40 2 rfl ?_
            refine z_iload_n Z dX7_mergesFor_41 0 rfl ?_
            refine z_callSu (rest := [zi 8, .ref aS]) Z dX7_mergesFor_42 (zc_X7_nodeAt l D ct (h) (d - 1) (by first | assumption | omega) (by first | assumption | omega)) (va_cwS 2 Z.1.2.2.2.2 gX7_mergesFor_X7_nodeAt rfl rfl rfl (by decide +kernel) ⟨Nat.le_of_ble_eq_true rfl, Nat.le_of_ble_eq_true rfl⟩) rfl (Nat.le_of_ble_eq_true rfl) ⟨Nat.le_of_ble_eq_true rfl, Nat.le_of_ble_eq_true rfl⟩ [false, false] [zO h0 6 [zi th, .ref aS, zi ((sv : Nat) : Int), .ref aF, .ref aX, zi ((ln : Nat) : Int), zi ((ta : Nat) : Int), zi sg, zi ((f1 : Nat) : Int), zi ((l1 : Nat) : Int), zi ((f2 : Nat) : Int), zi ((l2 : Nat) : Int)], zAI ct aS 3888 gg] [zi ((ndF h (d - 1) : Nat) : Int), zi 8, .ref aS] rfl rfl rfl rfl ?_
            have hn9 := ndF_lt5 hh (show d - 1 < 6 from by omega)
            refine z_iadd Z dX7_mergesFor_45 ?_
            refine z_top (y := ((8 + (ndF h (d - 1)) : Nat) : Int)) (by omega) ?_
            refine z_iconst (v := 0) Z dX7_mergesFor_46 rfl ?_
            refine z_iast Z dX7_mergesFor_47 1 (8 + (ndF h (d - 1))) [zO h0 6 [zi th, .ref aS, zi ((sv : Nat) : Int), .ref aF, .ref aX, zi ((ln : Nat) : Int), zi ((ta : Nat) : Int), zi sg, zi ((f1 : Nat) : Int), zi ((l1 : Nat) : Int), zi ((f2 : Nat) : Int), zi ((l2 : Nat) : Int)], zAI ct aS 3888 (zU gg (8 + (ndF h (d - 1))) 0)] rfl (rfl) ⟨by omega, by omega⟩ rfl ?_
            refine z_aload_n Z dX7_mergesFor_48 1 rfl ?_
            refine z_get Z dX7_mergesFor_49 zin_X7_mergesFor_X7 0 1 rfl rfl (by decide) zlk_X7_mergesFor_7 rfl ?_
            refine z_iconst (v := 3) Z dX7_mergesFor_52 rfl ?_
            refine z_dup2 Z dX7_mergesFor_53 rfl rfl ?_
            refine z_iald Z dX7_mergesFor_54 1 (3) rfl (by omega) ⟨by omega, by omega⟩ ?_
            refine z_iconst (v := 1) Z dX7_mergesFor_55 rfl ?_
            refine z_iadd Z dX7_mergesFor_56 ?_
            refine z_iast Z dX7_mergesFor_57 1 (3) [zO h0 6 [zi th, .ref aS, zi ((sv : Nat) : Int), .ref aF, .ref aX, zi ((ln : Nat) : Int), zi ((ta : Nat) : Int), zi sg, zi ((f1 : Nat) : Int), zi ((l1 : Nat) : Int), zi ((f2 : Nat) : Int), zi ((l2 : Nat) : Int)], zAI ct aS 3888 (zU (zU gg (8 + (ndF h (d - 1))) 0) 3 (((zU gg (8 + (ndF h (d - 1))) 0) 3) + 1))] rfl (by omega) ⟨by omega, by omega⟩ rfl ?_
            refine z_goto Z 6 dX7_mergesFor_58 (by decide) ?_
            refine z_lsub [1, 2, 0] [(0, .ref h0), (1, zi ((h : Nat) : Int)), (2, zi ((d - 1 : Nat) : Int))] rfl ?_
            exact ih0 (d - 1) (zU (zU gg (8 + (ndF h (d - 1))) 0) 3 (((zU gg (8 + (ndF h (d - 1))) 0) 3) + 1)) _ (by omega) (by first | rfl | omega)  (by first | assumption | omega) (by rw [zU_n _ _ (by omega), zU_n _ _ (by omega)]; exact hcq) (zU2_rg hgq (by omega) (by rw [zU_n _ _ (by omega)]; omega)) (zU2_hs hsq (by omega) (by omega)) (by rw [zU_s, zU_n _ _ (by omega)]; omega) (by rw [zU_n _ _ (by omega)]; exact (mgM_next (by omega) (by omega) h28).symm.trans he)
  exact LOOP6 ((dpF g h 6 0) + 1 + 1) (dpF g h 6 0) g _ (Nat.lt_succ_self _) (by first | rfl | omega)  (by first | assumption | omega) (by first | assumption | omega) (hg) (hhs) (by first | assumption | omega) (rfl)
