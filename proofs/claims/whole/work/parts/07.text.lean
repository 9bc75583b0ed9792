/-! plain numbers for the text -/
def chP (tx : Nat → Nat) (ch a : Nat) : Nat → Bool := fun j => decide (tx (a + j) = ch)
def ioF (tx : Nat → Nat) (ch a b : Nat) : Nat := a + fiF (chP tx ch a) (b - a)
theorem ioF_eq {tx : Nat → Nat} {ch a b i : Nat} (h1 : a ≤ i) (h2 : i ≤ b) (h3 : ∀ j, j < i - a → chP tx ch a j = false) (h4 : i < b → tx i = ch) : ioF tx ch a b = i := by
  unfold ioF
  rw [fiF_eq (k := i - a) (by omega) h3 (fun h => decide_eq_true (by rw [show a + (i - a) = i by omega]; exact h4 (by omega)))]
  omega
theorem chP_next {tx : Nat → Nat} {ch a i : Nat} (h1 : a ≤ i) (h3 : ∀ j, j < i - a → chP tx ch a j = false) (h : tx i ≠ ch) : ∀ j, j < i + 1 - a → chP tx ch a j = false := by
  intro j hj
  rcases Nat.lt_or_ge j (i - a) with h9 | h9
  · exact h3 j h9
  · exact decide_eq_false (by rw [show a + j = i by omega]; exact h)
theorem ltr_next {tx : Nat → Nat} {a i : Nat} (h1 : a ≤ i) (h3 : ∀ j, j < i - a → 97 ≤ tx (a + j) ∧ tx (a + j) ≤ 122) (h : 97 ≤ tx i ∧ tx i ≤ 122) : ∀ j, j < i + 1 - a → 97 ≤ tx (a + j) ∧ tx (a + j) ≤ 122 := by
  intro j hj
  rcases Nat.lt_or_ge j (i - a) with h9 | h9
  · exact h3 j h9
  · rw [show a + j = i by omega]; exact h
/-- k letters from a place on, as a name -/
def pkF (tx : Nat → Nat) (a : Nat) : Nat → Nat
  | 0 => 0
  | k + 1 => pkF tx a k + (tx (a + k) - 96) * 2 ^ (25 - 5 * k)
theorem pkF_ok {tx : Nat → Nat} {a k : Nat} (h : ∀ j, j < k → 97 ≤ tx (a + j) ∧ tx (a + j) ≤ 122) (hk : k ≤ 6) : pkF tx a k % 2 ^ (30 - 5 * k) = 0 ∧ pkF tx a k + 2 ^ (30 - 5 * k) ≤ 1073741824 := by
  induction k with
  | zero => exact ⟨by simp [pkF], by simp [pkF]⟩
  | succ k ih =>
    obtain ⟨h1, h2⟩ := ih (fun j hj => h j (by omega)) (by omega)
    have h3 := h k (by omega)
    have h4 : pkF tx a (k + 1) = pkF tx a k + (tx (a + k) - 96) * 2 ^ (25 - 5 * k) := rfl
    rw [h4]
    have hk6 : k = 0 ∨ k = 1 ∨ k = 2 ∨ k = 3 ∨ k = 4 ∨ k = 5 := by omega
    rcases hk6 with rfl | rfl | rfl | rfl | rfl | rfl <;> simp only [Nat.reduceMul, Nat.reduceSub, Nat.reducePow, Nat.reduceAdd] at h1 h2 ⊢ <;> omega
def nbF (tx : Nat → Nat) (a b : Nat) : Nat := if b - a ≤ 6 ∧ ∀ j, j < b - a → 97 ≤ tx (a + j) ∧ tx (a + j) ≤ 122 then pkF tx a (b - a) else 0
theorem nbF_lt (tx : Nat → Nat) (a b : Nat) : nbF tx a b < 1073741824 := by
  unfold nbF
  split
  · rename_i h
    have := pkF_ok h.2 h.1
    have h2 : 0 < 2 ^ (30 - 5 * (b - a)) := Nat.pow_pos (by decide)
    omega
  · decide
/-- the text's error position -/
def plF (pt lt : Nat) : Nat := if lt < 6 then (if pt = 0 then 1 else pt) else 3
def paC (pt lt ch : Nat) : Nat := if 97 ≤ ch ∧ ch ≤ 122 then plF pt lt else if pt = 0 then (if ch = 43 ∨ ch = 45 then 2 else 3) else if lt = 0 then 3 else if pt = 1 then (if ch = 61 then 2 else 3) else (if ch = 59 then 0 else 3)
theorem paC_lt (pt lt ch : Nat) (h : pt < 3) : paC pt lt ch < 4 := by
  unfold paC plF
  repeat' split
  all_goals omega
def ceF (tx : Nat → Nat) (len : Nat) : Nat → Nat → Nat → Nat → Int
  | 0, _, pt, lt => if pt = 2 ∧ 0 < lt then (-2 : Int) else ((len : Nat) : Int)
  | k + 1, i, pt, lt => if paC pt lt (tx i) = 3 then ((i : Nat) : Int) else ceF tx len k (i + 1) (paC pt lt (tx i)) (if 97 ≤ tx i ∧ tx i ≤ 122 then lt + 1 else 0)
theorem ceF_bad {tx : Nat → Nat} {len i pt lt : Nat} (hi : i < len) (h : paC pt lt (tx i) = 3) : ceF tx len (len - i) i pt lt = ((i : Nat) : Int) := by
  obtain ⟨k, hk⟩ : ∃ k, len - i = k + 1 := ⟨len - i - 1, by omega⟩
  rw [hk]
  show (if paC pt lt (tx i) = 3 then ((i : Nat) : Int) else _) = _
  rw [if_pos h]
theorem ceF_next {tx : Nat → Nat} {len i pt lt : Nat} (hi : i < len) (h : paC pt lt (tx i) ≠ 3) : ceF tx len (len - i) i pt lt = ceF tx len (len - (i + 1)) (i + 1) (paC pt lt (tx i)) (if 97 ≤ tx i ∧ tx i ≤ 122 then lt + 1 else 0) := by
  obtain ⟨k, hk⟩ : ∃ k, len - i = k + 1 := ⟨len - i - 1, by omega⟩
  rw [hk, show len - (i + 1) = k by omega]
  show (if paC pt lt (tx i) = 3 then ((i : Nat) : Int) else _) = _
  rw [if_neg h]
theorem wl_0 {nm ch i : Nat} (hi : i < 6) (hc : 97 ≤ ch ∧ ch ≤ 122) (hn : nm % 2 ^ (30 - 5 * i) = 0) : zI ((nm : Nat) : Int) ||| zI (((ch - 96) * 2 ^ (25 - 5 * i) : Nat) : Int) = zI ((nm + (ch - 96) * 2 ^ (25 - 5 * i) : Nat) : Int) := by
  refine zq_or (k := 30 - 5 * i) ?_ hn
  have hk6 : i = 0 ∨ i = 1 ∨ i = 2 ∨ i = 3 ∨ i = 4 ∨ i = 5 := by omega
  rcases hk6 with rfl | rfl | rfl | rfl | rfl | rfl <;> simp only [Nat.reduceMul, Nat.reduceSub, Nat.reducePow] <;> omega
theorem wl_1 {ch i : Nat} (hi : i < 6) (hc : 97 ≤ ch ∧ ch ≤ 122) : (ch - 96) * 2 ^ (25 - 5 * i) < 2147483648 := by
  have hk6 : i = 0 ∨ i = 1 ∨ i = 2 ∨ i = 3 ∨ i = 4 ∨ i = 5 := by omega
  rcases hk6 with rfl | rfl | rfl | rfl | rfl | rfl <;> simp only [Nat.reduceMul, Nat.reduceSub, Nat.reducePow] <;> omega
set_option maxHeartbeats 4000000 in
set_option maxRecDepth 100000 in
theorem zc_X2_withLetter (l : Launch) (D : va_G) (ct : zCT) (nm : Nat) (i : Nat) (ch : Nat) (hi : i < 6) (hc : 97 ≤ ch ∧ ch ≤ 122) (hn : nm % 2 ^ (30 - 5 * i) = 0) : zMet l yX2_withLetter wsX2_withLetter ({ frames := 1, cells := 0, slots := 0, locals := 20 } : Room) D ct [zi ((nm : Nat) : Int), zi ((i : Nat) : Int), zi ((ch : Nat) : Int)] [] (fun _ : Unit => True) (fun _ => some (zi (((nm + (ch - 96) * 2 ^ (25 - 5 * i) : Nat) : Int)))) (fun _ => []) 0 0 := by
  refine zMet_i (cc := cX2_withLetter) (maxL := 3) (r := fun _ => ((nm + (ch - 96) * 2 ^ (25 - 5 * i) : Nat) : Int)) (by decide) rfl (Nat.le_of_ble_eq_true rfl) ?_
  intro p e s m below meth c A Q Z hnm hR
  refine z_eqs _ [(0, zi ((nm : Nat) : Int)), (1, zi ((i : Nat) : Int)), (2, zi ((ch : Nat) : Int))] _ rfl rfl rfl ?_
  refine z_iload_n Z dX2_withLetter_0 0 rfl ?_
  refine z_iload_n Z dX2_withLetter_1 2 rfl ?_
  refine z_bipush (v := 97) Z dX2_withLetter_2 (by decide +kernel) ?_
  refine z_isub Z dX2_withLetter_4 ?_
  refine z_iconst (v := 1) Z dX2_withLetter_5 rfl ?_
  refine z_iadd Z dX2_withLetter_6 ?_
  refine z_top (y := ((ch - 96 : Nat) : Int)) (by omega) ?_
  refine z_iload_n Z dX2_withLetter_7 1 rfl ?_
  refine z_callSu (rest := [zi ((ch - 96 : Nat) : Int), zi ((nm : Nat) : Int)]) Z dX2_withLetter_8 (zc_X2_shiftOf l D ct (i) (by first | assumption | omega)) (va_cwS 1 Z.1.2.2.2.2 gX2_withLetter_X2_shiftOf rfl rfl rfl (by decide +kernel) ⟨Nat.le_of_ble_eq_true rfl, Nat.le_of_ble_eq_true rfl⟩) rfl (Nat.le_of_ble_eq_true rfl) ⟨Nat.le_of_ble_eq_true rfl, Nat.le_of_ble_eq_true rfl⟩ [] [] [zi ((25 - 5 * i : Nat) : Int), zi ((ch - 96 : Nat) : Int), zi ((nm : Nat) : Int)] rfl rfl rfl rfl ?_
  refine z_ishl (v := (((ch - 96) * 2 ^ (25 - 5 * i) : Nat) : Int)) Z dX2_withLetter_11 (zq_shl (by omega) (wl_1 hi hc)) ?_
  refine z_ior (v := ((nm + (ch - 96) * 2 ^ (25 - 5 * i) : Nat) : Int)) Z dX2_withLetter_12 (wl_0 hi hc hn) ?_
  refine z_eqs [] _ [zi ((nm + (ch - 96) * 2 ^ (25 - 5 * i) : Nat) : Int)] (rfl) rfl (rfl) ?_
  exact hR _ _ () trivial dX2_withLetter_13
theorem zin_X4_append_X4 : ∀ w ∈ wsX40, w ∈ wsX4_append := by decide +kernel
theorem zlk_X4_append_9 : Cond.fieldLink RX4 9 "HashedDirectory$Text" "characters" "[I" ∈ wsX4_append := by decide +kernel
theorem zlk_X4_append_15 : Cond.fieldLink RX4 15 "HashedDirectory$Text" "length" "I" ∈ wsX4_append := by decide +kernel
set_option maxHeartbeats 4000000 in
set_option maxRecDepth 100000 in
theorem zc_X4_append (l : Launch) (D : va_G) (ct : zCT) (h0 : Nat) (aC : Nat) (tx : Nat → Nat) (len : Nat) (ch : Nat) (hl : len < 80) : zMet l yX4_append wsX4_append ({ frames := 0, cells := 0, slots := 0, locals := 0 } : Room) D ct [.ref h0, zi ((ch : Nat) : Int)] [zO h0 3 [.ref aC, zi ((len : Nat) : Int)], zAI ct aC 80 (zN tx)] (fun _ : Unit => True) (fun _ => none) (fun _ => [zO h0 3 [.ref aC, zi ((len + 1 : Nat) : Int)], zAI ct aC 80 (zN (zU tx len ch))]) 0 0 := by
  refine zMet_v (cc := cX4_append) (maxL := 2) (by decide) rfl (Nat.le_of_ble_eq_true rfl) ?_
  intro p e s m below meth c A Q Z hnm hR
  refine z_eqs _ [(0, .ref h0), (1, zi ((ch : Nat) : Int))] _ rfl rfl rfl ?_
  refine z_aload_n Z dX4_append_0 0 rfl ?_
  refine z_get Z dX4_append_1 zin_X4_append_X4 0 0 rfl rfl (by decide) zlk_X4_append_9 rfl ?_
  refine z_aload_n Z dX4_append_4 0 rfl ?_
  refine z_get Z dX4_append_5 zin_X4_append_X4 0 1 rfl rfl (by decide) zlk_X4_append_15 rfl ?_
  refine z_iload_n Z dX4_append_8 1 rfl ?_
  refine z_iastN Z dX4_append_9 1 (len) [zO h0 3 [.ref aC, zi ((len : Nat) : Int)], zAI ct aC 80 (zN (zU tx len ch))] rfl (rfl) ⟨by omega, by omega⟩ rfl ?_
  refine z_aload_n Z dX4_append_10 0 rfl ?_
  refine z_dup Z dX4_append_11 rfl ?_
  refine z_get Z dX4_append_12 zin_X4_append_X4 0 1 rfl rfl (by decide) zlk_X4_append_15 rfl ?_
  refine z_iconst (v := 1) Z dX4_append_15 rfl ?_
  refine z_iadd Z dX4_append_16 ?_
  refine z_top (y := ((len + 1 : Nat) : Int)) (by omega) ?_
  refine z_put (ty := .int) Z dX4_append_17 zin_X4_append_X4 tyX4 tyX4_ok nmX4 0 1 [zO h0 3 [.ref aC, zi ((len + 1 : Nat) : Int)], zAI ct aC 80 (zN (zU tx len ch))] rfl rfl (by decide) zlk_X4_append_15 rfl (by decide +kernel) rfl rfl (Nat.le_of_ble_eq_true rfl) rfl ?_
  refine z_eqs [zO h0 3 [.ref aC, zi ((len + 1 : Nat) : Int)], zAI ct aC 80 (zN (zU tx len ch))] _ [] (rfl) rfl (rfl) ?_
  exact hR _ _ () trivial dX4_append_20
theorem zin_X4_empty_X4 : ∀ w ∈ wsX40, w ∈ wsX4_empty := by decide +kernel
theorem zlk_X4_empty_15 : Cond.fieldLink RX4 15 "HashedDirectory$Text" "length" "I" ∈ wsX4_empty := by decide +kernel
set_option maxHeartbeats 4000000 in
set_option maxRecDepth 100000 in
theorem zc_X4_empty (l : Launch) (D : va_G) (ct : zCT) (h0 : Nat) (aC : Nat) (tx : Nat → Nat) (len : Nat)  : zMet l yX4_empty wsX4_empty ({ frames := 0, cells := 0, slots := 0, locals := 0 } : Room) D ct [.ref h0] [zO h0 3 [.ref aC, zi ((len : Nat) : Int)], zAI ct aC 80 (zN tx)] (fun _ : Unit => True) (fun _ => none) (fun _ => [zO h0 3 [.ref aC, zi 0], zAI ct aC 80 (zN tx)]) 0 0 := by
  refine zMet_v (cc := cX4_empty) (maxL := 1) (by decide) rfl (Nat.le_of_ble_eq_true rfl) ?_
  intro p e s m below meth c A Q Z hnm hR
  refine z_eqs _ [(0, .ref h0)] _ rfl rfl rfl ?_
  refine z_aload_n Z dX4_empty_0 0 rfl ?_
  refine z_iconst (v := 0) Z dX4_empty_1 rfl ?_
  refine z_put (ty := .int) Z dX4_empty_2 zin_X4_empty_X4 tyX4 tyX4_ok nmX4 0 1 [zO h0 3 [.ref aC, zi 0], zAI ct aC 80 (zN tx)] rfl rfl (by decide) zlk_X4_empty_15 rfl (by decide +kernel) rfl rfl (Nat.le_of_ble_eq_true rfl) rfl ?_
  refine z_eqs [zO h0 3 [.ref aC, zi 0], zAI ct aC 80 (zN tx)] _ [] (rfl) rfl (rfl) ?_
  exact hR _ _ () trivial dX4_empty_5
theorem zin_X4_charIn_X4 : ∀ w ∈ wsX40, w ∈ wsX4_charIn := by decide +kernel
theorem zlk_X4_charIn_9 : Cond.fieldLink RX4 9 "HashedDirectory$Text" "characters" "[I" ∈ wsX4_charIn := by decide +kernel
set_option maxHeartbeats 4000000 in
set_option maxRecDepth 100000 in
theorem zc_X4_charIn (l : Launch) (D : va_G) (ct : zCT) (h0 : Nat) (aC : Nat) (tx : Nat → Nat) (len : Nat) (i : Nat) (hi : i < 80) : zMet l yX4_charIn wsX4_charIn ({ frames := 0, cells := 0, slots := 0, locals := 0 } : Room) D ct [.ref h0, zi ((i : Nat) : Int)] [zO h0 3 [.ref aC, zi ((len : Nat) : Int)], zAI ct aC 80 (zN tx)] (fun _ : Unit => True) (fun _ => some (zi (((tx i : Nat) : Int)))) (fun _ => [zO h0 3 [.ref aC, zi ((len : Nat) : Int)], zAI ct aC 80 (zN tx)]) 0 0 := by
  refine zMet_i (cc := cX4_charIn) (maxL := 2) (r := fun _ => ((tx i : Nat) : Int)) (by decide) rfl (Nat.le_of_ble_eq_true rfl) ?_
  intro p e s m below meth c A Q Z hnm hR
  refine z_eqs _ [(0, .ref h0), (1, zi ((i : Nat) : Int))] _ rfl rfl rfl ?_
  refine z_aload_n Z dX4_charIn_0 0 rfl ?_
  refine z_get Z dX4_charIn_1 zin_X4_charIn_X4 0 0 rfl rfl (by decide) zlk_X4_charIn_9 rfl ?_
  refine z_iload_n Z dX4_charIn_4 1 rfl ?_
  refine z_ialdN Z dX4_charIn_5 1 (i) rfl (rfl) ⟨by omega, by omega⟩ ?_
  refine z_eqs [zO h0 3 [.ref aC, zi ((len : Nat) : Int)], zAI ct aC 80 (zN tx)] _ [zi ((tx i : Nat) : Int)] (rfl) rfl (rfl) ?_
  exact hR _ _ () trivial dX4_charIn_6
theorem zin_X4_indexOf_X4 : ∀ w ∈ wsX40, w ∈ wsX4_indexOf := by decide +kernel
theorem zlk_X4_indexOf_9 : Cond.fieldLink RX4 9 "HashedDirectory$Text" "characters" "[I" ∈ wsX4_indexOf := by decide +kernel
set_option maxHeartbeats 4000000 in
set_option maxRecDepth 100000 in
theorem zc_X4_indexOf (l : Launch) (D : va_G) (ct : zCT) (h0 : Nat) (aC : Nat) (tx : Nat → Nat) (len : Nat) (ch : Nat) (a : Nat) (b : Nat) (hl : len ≤ 80) (ht : ∀ j, j < 80 → tx j < 128) (hc : ch < 128) (ha : a ≤ b) (hb : b ≤ 80) : zMet l yX4_indexOf wsX4_indexOf ({ frames := 0, cells := 0, slots := 0, locals := 0 } : Room) D ct [.ref h0, zi ((ch : Nat) : Int), zi ((a : Nat) : Int), zi ((b : Nat) : Int)] [zO h0 3 [.ref aC, zi ((len : Nat) : Int)], zAI ct aC 80 (zN tx)] (fun _ : Unit => True) (fun _ => some (zi (((ioF tx ch a b : Nat) : Int)))) (fun _ => [zO h0 3 [.ref aC, zi ((len : Nat) : Int)], zAI ct aC 80 (zN tx)]) 0 0 := by
  refine zMet_i (cc := cX4_indexOf) (maxL := 5) (r := fun _ => ((ioF tx ch a b : Nat) : Int)) (by decide) rfl (Nat.le_of_ble_eq_true rfl) ?_
  intro p e s m below meth c A Q Z hnm hR
  refine z_eqs _ [(0, .ref h0), (1, zi ((ch : Nat) : Int)), (2, zi ((a : Nat) : Int)), (3, zi ((b : Nat) : Int))] _ rfl rfl rfl ?_
  refine z_iload_n Z dX4_indexOf_0 2 rfl ?_
  refine z_istore Z dX4_indexOf_1 [(4, zi ((a : Nat) : Int)), (0, .ref h0), (1, zi ((ch : Nat) : Int)), (2, zi ((a : Nat) : Int)), (3, zi ((b : Nat) : Int))] (by decide) rfl ?_
  refine z_lsub [1, 2, 3, 4, 0] [(0, .ref h0), (1, zi ((ch : Nat) : Int)), (2, zi ((a : Nat) : Int)), (3, zi ((b : Nat) : Int)), (4, zi ((a : Nat) : Int))] rfl ?_
  have LOOP3 : ∀ (N0 : Nat) (i : Nat) (x4 : Int), b + 1 - i < N0 → x4 = ((i : Nat) : Int) → (a ≤ i) → (i ≤ b) → (∀ j, j < i - a → chP tx ch a j = false) → zW p l e ({ frames := 0, cells := 0, slots := 0, locals := 0 } : Room) s m ([.ref h0, zi ((ch : Nat) : Int), zi ((a : Nat) : Int), zi ((b : Nat) : Int)] : List Value).toArray below meth c D A 5 Q 0 0 [zO h0 3 [.ref aC, zi ((len : Nat) : Int)], zAI ct aC 80 (zN tx)] [(0, .ref h0), (1, zi ((ch : Nat) : Int)), (2, zi ((a : Nat) : Int)), (3, zi ((b : Nat) : Int)), (4, zi x4)] 3 [] := by
    intro N0
    induction N0 with
    | zero => intro i x4 hm0; exact absurd hm0 (Nat.not_lt_zero _)
    | succ N0 ih0 =>
      intro i x4 hm0 ex4 hi hi2 hj
      subst ex4
      refine z_iload Z dX4_indexOf_3 4 rfl ?_
      refine z_iload_n Z dX4_indexOf_5 3 rfl ?_
      refine z_icmp_ge Z 26 dX4_indexOf_6 (by decide) (by omega) (by omega) (fun h6 => ?_) (fun h6 => ?_)
      · refine z_iload Z dX4_indexOf_26 4 rfl ?_
        refine z_eqs [zO h0 3 [.ref aC, zi ((len : Nat) : Int)], zAI ct aC 80 (zN tx)] _ [zi ((ioF tx ch a b : Nat) : Int)] (rfl) rfl (congrArg (fun z => [zi z]) (by rw [← ioF_eq hi hi2 hj (fun h9 => by omega)])) ?_
        exact hR _ _ () trivial dX4_indexOf_28
      · refine z_aload_n Z dX4_indexOf_9 0 rfl ?_
        refine z_get Z dX4_indexOf_10 zin_X4_indexOf_X4 0 0 rfl rfl (by decide) zlk_X4_indexOf_9 rfl ?_
        refine z_iload Z dX4_indexOf_13 4 rfl ?_
        refine z_ialdN Z dX4_indexOf_15 1 (i) rfl (rfl) ⟨by omega, by omega⟩ ?_
        have he1 := ht (i) (by omega)
        refine z_iload_n Z dX4_indexOf_16 1 rfl ?_
        refine z_icmp_eq Z 26 dX4_indexOf_17 (by decide) (by omega) (by omega) (fun h17 => ?_) (fun h17 => ?_)
        · refine z_iload Z dX4_indexOf_26 4 rfl ?_
          refine z_eqs [zO h0 3 [.ref aC, zi ((len : Nat) : Int)], zAI ct aC 80 (zN tx)] _ [zi ((ioF tx ch a b : Nat) : Int)] (rfl) rfl (congrArg (fun z => [zi z]) (by rw [← ioF_eq hi hi2 hj (fun h9 => by omega)])) ?_
          exact hR _ _ () trivial dX4_indexOf_28
        · refine z_iinc (v := ((i + 1 : Nat) : Int)) Z dX4_indexOf_20 4 [(4, zi ((i + 1 : Nat) : Int)), (0, .ref h0), (1, zi ((ch : Nat) : Int)), (2, zi ((a : Nat) : Int)), (3, zi ((b : Nat) : Int))] rfl (by omega) (by decide) rfl ?_
          refine z_goto Z 3 dX4_indexOf_23 (by decide) ?_
          refine z_lsub [1, 2, 3, 4, 0] [(0, .ref h0), (1, zi ((ch : Nat) : Int)), (2, zi ((a : Nat) : Int)), (3, zi ((b : Nat) : Int)), (4, zi ((i + 1 : Nat) : Int))] rfl ?_
          exact ih0 (i + 1) _ (by omega) (by first | rfl | omega)  (by first | assumption | omega) (by first | assumption | omega) (chP_next hi hj (by omega))
  exact LOOP3 (b + 1 - a + 1) a _ (Nat.lt_succ_self _) (by first | rfl | omega)  (by first | assumption | omega) (by first | assumption | omega) (fun j hj => absurd hj (by omega))
theorem zin_X4_endsCommand_X4 : ∀ w ∈ wsX40, w ∈ wsX4_endsCommand := by decide +kernel
theorem zlk_X4_endsCommand_15 : Cond.fieldLink RX4 15 "HashedDirectory$Text" "length" "I" ∈ wsX4_endsCommand := by decide +kernel
theorem zlk_X4_endsCommand_9 : Cond.fieldLink RX4 9 "HashedDirectory$Text" "characters" "[I" ∈ wsX4_endsCommand := by decide +kernel
set_option maxHeartbeats 4000000 in
set_option maxRecDepth 100000 in
theorem zc_X4_endsCommand (l : Launch) (D : va_G) (ct : zCT) (h0 : Nat) (aC : Nat) (tx : Nat → Nat) (len : Nat) (i : Nat) (hl : len ≤ 80) (ht : ∀ j, j < 80 → tx j < 128) (hi : i ≤ len) : zMet l yX4_endsCommand wsX4_endsCommand ({ frames := 0, cells := 0, slots := 0, locals := 0 } : Room) D ct [.ref h0, zi ((i : Nat) : Int)] [zO h0 3 [.ref aC, zi ((len : Nat) : Int)], zAI ct aC 80 (zN tx)] (fun _ : Unit => True) (fun _ => some (zi (zb (decide (len ≤ i ∨ tx i = 59))))) (fun _ => [zO h0 3 [.ref aC, zi ((len : Nat) : Int)], zAI ct aC 80 (zN tx)]) 0 0 := by
  refine zMet_z (cc := cX4_endsCommand) (maxL := 2) (r := fun _ => zb (decide (len ≤ i ∨ tx i = 59))) (by decide) rfl (Nat.le_of_ble_eq_true rfl) (fun _ _ => zb_n _) ?_
  intro p e s m below meth c A Q Z hnm hR
  refine z_eqs _ [(0, .ref h0), (1, zi ((i : Nat) : Int))] _ rfl rfl rfl ?_
  refine z_iload_n Z dX4_endsCommand_0 1 rfl ?_
  refine z_aload_n Z dX4_endsCommand_1 0 rfl ?_
  refine z_get Z dX4_endsCommand_2 zin_X4_endsCommand_X4 0 1 rfl rfl (by decide) zlk_X4_endsCommand_15 rfl ?_
  refine z_icmp_ge Z 19 dX4_endsCommand_5 (by decide) (by omega) (by omega) (fun h5 => ?_) (fun h5 => ?_)
  · refine z_iconst (v := 1) Z dX4_endsCommand_19 rfl ?_
    refine z_goto Z 24 dX4_endsCommand_20 (by decide) ?_
    refine z_eqs [zO h0 3 [.ref aC, zi ((len : Nat) : Int)], zAI ct aC 80 (zN tx)] _ [zi (zb (decide (len ≤ i ∨ tx i = 59)))] (rfl) rfl (congrArg (fun z => [zi z]) (zb_p _ (by omega))) ?_
    exact hR _ _ () trivial dX4_endsCommand_24
  · refine z_aload_n Z dX4_endsCommand_8 0 rfl ?_
    refine z_get Z dX4_endsCommand_9 zin_X4_endsCommand_X4 0 0 rfl rfl (by decide) zlk_X4_endsCommand_9 rfl ?_
    refine z_iload_n Z dX4_endsCommand_12 1 rfl ?_
    refine z_ialdN Z dX4_endsCommand_13 1 (i) rfl (rfl) ⟨by omega, by omega⟩ ?_
    have he1 := ht (i) (by omega)
    refine z_bipush (v := 59) Z dX4_endsCommand_14 (by decide +kernel) ?_
    refine z_icmp_ne Z 23 dX4_endsCommand_16 (by decide) (by omega) (by omega) (fun h16 => ?_) (fun h16 => ?_)
    · refine z_iconst (v := 0) Z dX4_endsCommand_23 rfl ?_
      refine z_eqs [zO h0 3 [.ref aC, zi ((len : Nat) : Int)], zAI ct aC 80 (zN tx)] _ [zi (zb (decide (len ≤ i ∨ tx i = 59)))] (rfl) rfl (congrArg (fun z => [zi z]) (zb_np _ (by omega))) ?_
      exact hR _ _ () trivial dX4_endsCommand_24
    · refine z_iconst (v := 1) Z dX4_endsCommand_19 rfl ?_
      refine z_goto Z 24 dX4_endsCommand_20 (by decide) ?_
      refine z_eqs [zO h0 3 [.ref aC, zi ((len : Nat) : Int)], zAI ct aC 80 (zN tx)] _ [zi (zb (decide (len ≤ i ∨ tx i = 59)))] (rfl) rfl (congrArg (fun z => [zi z]) (zb_p _ (by omega))) ?_
      exact hR _ _ () trivial dX4_endsCommand_24
theorem zin_X4_nameBetween_X4 : ∀ w ∈ wsX40, w ∈ wsX4_nameBetween := by decide +kernel
theorem zlk_X4_nameBetween_9 : Cond.fieldLink RX4 9 "HashedDirectory$Text" "characters" "[I" ∈ wsX4_nameBetween := by decide +kernel
set_option maxHeartbeats 4000000 in
set_option maxRecDepth 100000 in
theorem zc_X4_nameBetween (l : Launch) (D : va_G) (ct : zCT) (h0 : Nat) (aC : Nat) (tx : Nat → Nat) (len : Nat) (a : Nat) (b : Nat) (hl : len ≤ 80) (ht : ∀ j, j < 80 → tx j < 128) (ha : a ≤ b) (hb : b ≤ 80) : zMet l yX4_nameBetween wsX4_nameBetween ({ frames := 2, cells := 0, slots := 0, locals := 42 } : Room) D ct [.ref h0, zi ((a : Nat) : Int), zi ((b : Nat) : Int)] [zO h0 3 [.ref aC, zi ((len : Nat) : Int)], zAI ct aC 80 (zN tx)] (fun _ : Unit => True) (fun _ => some (zi (((nbF tx a b : Nat) : Int)))) (fun _ => [zO h0 3 [.ref aC, zi ((len : Nat) : Int)], zAI ct aC 80 (zN tx)]) 0 0 := by
  refine zMet_i (cc := cX4_nameBetween) (maxL := 5) (r := fun _ => ((nbF tx a b : Nat) : Int)) (by decide) rfl (Nat.le_of_ble_eq_true rfl) ?_
  intro p e s m below meth c A Q Z hnm hR
  refine z_eqs _ [(0, .ref h0), (1, zi ((a : Nat) : Int)), (2, zi ((b : Nat) : Int))] _ rfl rfl rfl ?_
  refine z_iload_n Z dX4_nameBetween_0 2 rfl ?_
  refine z_iload_n Z dX4_nameBetween_1 1 rfl ?_
  refine z_isub Z dX4_nameBetween_2 ?_
  refine z_top (y := ((b - a : Nat) : Int)) (by omega) ?_
  refine z_bipush (v := 6) Z dX4_nameBetween_3 (by decide +kernel) ?_
  refine z_icmp_le Z 10 dX4_nameBetween_5 (by decide) (by omega) (by omega) (fun h5 => ?_) (fun h5 => ?_)
  · refine z_iconst (v := 0) Z dX4_nameBetween_10 rfl ?_
    refine z_istore_n Z dX4_nameBetween_11 [(3, zi 0), (0, .ref h0), (1, zi ((a : Nat) : Int)), (2, zi ((b : Nat) : Int))] (by decide) rfl ?_
    refine z_iload_n Z dX4_nameBetween_12 2 rfl ?_
    refine z_istore Z dX4_nameBetween_13 [(4, zi ((a : Nat) : Int)), (3, zi 0), (0, .ref h0), (1, zi ((a : Nat) : Int)), (2, zi ((b : Nat) : Int))] (by decide) rfl ?_
    refine z_lsub [2, 3, 4, 1, 0] [(0, .ref h0), (1, zi ((a : Nat) : Int)), (2, zi ((b : Nat) : Int)), (3, zi 0), (4, zi ((a : Nat) : Int))] rfl ?_
    have LOOP15 : ∀ (N0 : Nat) (i : Nat) (x4 : Int) (x3 : Int), b + 1 - i < N0 → x4 = ((i : Nat) : Int) → x3 = ((pkF tx a (i - a) : Nat) : Int) → (a ≤ i) → (i ≤ b) → (∀ j, j < i - a → 97 ≤ tx (a + j) ∧ tx (a + j) ≤ 122) → zW p l e ({ frames := 2, cells := 0, slots := 0, locals := 42 } : Room) s m ([.ref h0, zi ((a : Nat) : Int), zi ((b : Nat) : Int)] : List Value).toArray below meth c D A 5 Q 0 0 [zO h0 3 [.ref aC, zi ((len : Nat) : Int)], zAI ct aC 80 (zN tx)] [(0, .ref h0), (1, zi ((a : Nat) : Int)), (2, zi ((b : Nat) : Int)), (3, zi x3), (4, zi x4)] 15 [] := by
      intro N0
      induction N0 with
      | zero => intro i x4 x3 hm0; exact absurd hm0 (Nat.not_lt_zero _)
      | succ N0 ih0 =>
        intro i x4 x3 hm0 ex4 ex3 hi hi2 hj
        subst ex4
        subst ex3
        have hp9 := pkF_ok hj (by omega)
        refine z_iload Z dX4_nameBetween_15 4 rfl ?_
        refine z_iload_n Z dX4_nameBetween_17 2 rfl ?_
        refine z_icmp_ge Z 58 dX4_nameBetween_18 (by decide) (by omega) (by omega) (fun h18 => ?_) (fun h18 => ?_)
        · refine z_iload_n Z dX4_nameBetween_58 3 rfl ?_
          refine z_eqs [zO h0 3 [.ref aC, zi ((len : Nat) : Int)], zAI ct aC 80 (zN tx)] _ [zi ((nbF tx a b : Nat) : Int)] (rfl) rfl (congrArg (fun z => [zi z]) (by unfold nbF; rw [show i = b from by omega] at hj ⊢; rw [if_pos ⟨by omega, hj⟩])) ?_
          exact hR _ _ () trivial dX4_nameBetween_59
        · refine z_aload_n Z dX4_nameBetween_21 0 rfl ?_
          refine z_get Z dX4_nameBetween_22 zin_X4_nameBetween_X4 0 0 rfl rfl (by decide) zlk_X4_nameBetween_9 rfl ?_
          refine z_iload Z dX4_nameBetween_25 4 rfl ?_
          refine z_ialdN Z dX4_nameBetween_27 1 (i) rfl (rfl) ⟨by omega, by omega⟩ ?_
          have he1 := ht (i) (by omega)
          refine z_callSu (rest := []) Z dX4_nameBetween_28 (zc_X2_isLetter l D ct (tx i) (by first | assumption | omega)) (va_cwS 1 Z.1.2.2.2.2 gX4_nameBetween_X2_isLetter rfl rfl rfl (by decide +kernel) ⟨Nat.le_of_ble_eq_true rfl, Nat.le_of_ble_eq_true rfl⟩) rfl (Nat.le_of_ble_eq_true rfl) ⟨Nat.le_of_ble_eq_true rfl, Nat.le_of_ble_eq_true rfl⟩ [false, false] [zO h0 3 [.ref aC, zi ((len : Nat) : Int)], zAI ct aC 80 (zN tx)] [zi (zb (decide (97 ≤ (tx i) ∧ (tx i) ≤ 122)))] rfl rfl rfl rfl ?_
          refine z_ifb_ne Z 36 dX4_nameBetween_31 (by decide) (fun h31 => ?_) (fun h31 => ?_)
          · have h31 := of_decide_eq_true h31
            refine z_iload_n Z dX4_nameBetween_36 3 rfl ?_
            refine z_iload Z dX4_nameBetween_37 4 rfl ?_
            refine z_iload_n Z dX4_nameBetween_39 1 rfl ?_
            refine z_isub Z dX4_nameBetween_40 ?_
            refine z_top (y := ((i - a : Nat) : Int)) (by omega) ?_
            refine z_aload_n Z dX4_nameBetween_41 0 rfl ?_
            refine z_get Z dX4_nameBetween_42 zin_X4_nameBetween_X4 0 0 rfl rfl (by decide) zlk_X4_nameBetween_9 rfl ?_
            refine z_iload Z dX4_nameBetween_45 4 rfl ?_
            refine z_ialdN Z dX4_nameBetween_47 1 (i) rfl (rfl) ⟨by omega, by omega⟩ ?_
            have he2 := ht (i) (by omega)
            refine z_callSu (rest := []) Z dX4_nameBetween_48 (zc_X2_withLetter l D ct (pkF tx a (i - a)) (i - a) (tx i) (by first | assumption | omega) (by omega) (hp9.1)) (va_cwS 3 Z.1.2.2.2.2 gX4_nameBetween_X2_withLetter rfl rfl rfl (by decide +kernel) ⟨Nat.le_of_ble_eq_true rfl, Nat.le_of_ble_eq_true rfl⟩) rfl (Nat.le_of_ble_eq_true rfl) ⟨Nat.le_of_ble_eq_true rfl, Nat.le_of_ble_eq_true rfl⟩ [false, false] [zO h0 3 [.ref aC, zi ((len : Nat) : Int)], zAI ct aC 80 (zN tx)] [zi (((pkF tx a (i - a)) + ((tx i) - 96) * 2 ^ (25 - 5 * (i - a)) : Nat) : Int)] rfl rfl rfl rfl ?_
            refine z_istore_n Z dX4_nameBetween_51 [(3, zi (((pkF tx a (i - a)) + ((tx i) - 96) * 2 ^ (25 - 5 * (i - a)) : Nat) : Int)), (0, .ref h0), (1, zi ((a : Nat) : Int)), (2, zi ((b : Nat) : Int)), (4, zi ((i : Nat) : Int))] (by decide) rfl ?_
            refine z_iinc (v := ((i + 1 : Nat) : Int)) Z dX4_nameBetween_52 4 [(4, zi ((i + 1 : Nat) : Int)), (3, zi (((pkF tx a (i - a)) + ((tx i) - 96) * 2 ^ (25 - 5 * (i - a)) : Nat) : Int)), (0, .ref h0), (1, zi ((a : Nat) : Int)), (2, zi ((b : Nat) : Int))] rfl (by omega) (by decide) rfl ?_
            refine z_goto Z 15 dX4_nameBetween_55 (by decide) ?_
            refine z_lsub [2, 3, 4, 1, 0] [(0, .ref h0), (1, zi ((a : Nat) : Int)), (2, zi ((b : Nat) : Int)), (3, zi (((pkF tx a (i - a)) + ((tx i) - 96) * 2 ^ (25 - 5 * (i - a)) : Nat) : Int)), (4, zi ((i + 1 : Nat) : Int))] rfl ?_
            exact ih0 (i + 1) _ _ (by omega) (by first | rfl | omega) (by rw [show i + 1 - a = i - a + 1 from by omega]; show _ = ((pkF tx a (i - a) + (tx (a + (i - a)) - 96) * 2 ^ (25 - 5 * (i - a)) : Nat) : Int); rw [show a + (i - a) = i from by omega])  (by first | assumption | omega) (by first | assumption | omega) (ltr_next hi hj (by omega))
          · have h31 := of_decide_eq_false h31
            refine z_iconst (v := 0) Z dX4_nameBetween_34 rfl ?_
            refine z_eqs [zO h0 3 [.ref aC, zi ((len : Nat) : Int)], zAI ct aC 80 (zN tx)] _ [zi ((nbF tx a b : Nat) : Int)] (rfl) rfl (congrArg (fun z => [zi z]) (by unfold nbF; rw [if_neg (fun z => by have := z.2 (i - a) (by omega); rw [show a + (i - a) = i from by omega] at this; omega)]; rfl)) ?_
            exact hR _ _ () trivial dX4_nameBetween_35
    exact LOOP15 (b + 1 - a + 1) a _ _ (Nat.lt_succ_self _) (by first | rfl | omega) (by rw [Nat.sub_self]; rfl)  (by first | assumption | omega) (by first | assumption | omega) (fun j hj => absurd hj (by omega))
  · refine z_iconst (v := 0) Z dX4_nameBetween_8 rfl ?_
    refine z_eqs [zO h0 3 [.ref aC, zi ((len : Nat) : Int)], zAI ct aC 80 (zN tx)] _ [zi ((nbF tx a b : Nat) : Int)] (rfl) rfl (congrArg (fun z => [zi z]) (by unfold nbF; rw [if_neg (by omega)]; rfl)) ?_
    exact hR _ _ () trivial dX4_nameBetween_9
set_option maxHeartbeats 4000000 in
set_option maxRecDepth 100000 in
theorem zc_X4_partAfterLetter (l : Launch) (D : va_G) (ct : zCT) (pt : Nat) (lt : Nat) (hp : pt < 4) (hl : lt < 1000) : zMet l yX4_partAfterLetter wsX4_partAfterLetter ({ frames := 0, cells := 0, slots := 0, locals := 0 } : Room) D ct [zi ((pt : Nat) : Int), zi ((lt : Nat) : Int)] [] (fun _ : Unit => True) (fun _ => some (zi (((plF pt lt : Nat) : Int)))) (fun _ => []) 0 0 := by
  refine zMet_i (cc := cX4_partAfterLetter) (maxL := 2) (r := fun _ => ((plF pt lt : Nat) : Int)) (by decide) rfl (Nat.le_of_ble_eq_true rfl) ?_
  intro p e s m below meth c A Q Z hnm hR
  refine z_eqs _ [(0, zi ((pt : Nat) : Int)), (1, zi ((lt : Nat) : Int))] _ rfl rfl rfl ?_
  refine z_iload_n Z dX4_partAfterLetter_0 1 rfl ?_
  refine z_bipush (v := 6) Z dX4_partAfterLetter_1 (by decide +kernel) ?_
  refine z_icmp_lt Z 8 dX4_partAfterLetter_3 (by decide) (by omega) (by omega) (fun h3 => ?_) (fun h3 => ?_)
  · refine z_iload_n Z dX4_partAfterLetter_8 0 rfl ?_
    refine z_if_ne Z 16 dX4_partAfterLetter_9 (by decide) (by omega) (fun h9 => ?_) (fun h9 => ?_)
    · refine z_iload_n Z dX4_partAfterLetter_16 0 rfl ?_
      refine z_eqs [] _ [zi ((plF pt lt : Nat) : Int)] (rfl) rfl (congrArg (fun z => [zi z]) (by unfold plF; rw [if_pos (by omega), if_neg (by omega)])) ?_
      exact hR _ _ () trivial dX4_partAfterLetter_17
    · refine z_iconst (v := 1) Z dX4_partAfterLetter_12 rfl ?_
      refine z_goto Z 17 dX4_partAfterLetter_13 (by decide) ?_
      refine z_eqs [] _ [zi ((plF pt lt : Nat) : Int)] (rfl) rfl (congrArg (fun z => [zi z]) (by unfold plF; rw [if_pos (by omega), if_pos (by omega)]; rfl)) ?_
      exact hR _ _ () trivial dX4_partAfterLetter_17
  · refine z_iconst (v := 3) Z dX4_partAfterLetter_6 rfl ?_
    refine z_eqs [] _ [zi ((plF pt lt : Nat) : Int)] (rfl) rfl (congrArg (fun z => [zi z]) (by unfold plF; rw [if_neg (by omega)]; rfl)) ?_
    exact hR _ _ () trivial dX4_partAfterLetter_7
set_option maxHeartbeats 4000000 in
set_option maxRecDepth 100000 in
theorem zc_X4_partAfter (l : Launch) (D : va_G) (ct : zCT) (pt : Nat) (lt : Nat) (ch : Nat) (hp : pt < 4) (hl : lt < 1000) (hc : ch < 128) : zMet l yX4_partAfter wsX4_partAfter ({ frames := 1, cells := 0, slots := 0, locals := 21 } : Room) D ct [zi ((pt : Nat) : Int), zi ((lt : Nat) : Int), zi ((ch : Nat) : Int)] [] (fun _ : Unit => True) (fun _ => some (zi (((paC pt lt ch : Nat) : Int)))) (fun _ => []) 0 0 := by
  refine zMet_i (cc := cX4_partAfter) (maxL := 3) (r := fun _ => ((paC pt lt ch : Nat) : Int)) (by decide) rfl (Nat.le_of_ble_eq_true rfl) ?_
  intro p e s m below meth c A Q Z hnm hR
  refine z_eqs _ [(0, zi ((pt : Nat) : Int)), (1, zi ((lt : Nat) : Int)), (2, zi ((ch : Nat) : Int))] _ rfl rfl rfl ?_
  refine z_iload_n Z dX4_partAfter_0 2 rfl ?_
  refine z_callSu (rest := []) Z dX4_partAfter_1 (zc_X2_isLetter l D ct (ch) (by first | assumption | omega)) (va_cwS 1 Z.1.2.2.2.2 gX4_partAfter_X2_isLetter rfl rfl rfl (by decide +kernel) ⟨Nat.le_of_ble_eq_true rfl, Nat.le_of_ble_eq_true rfl⟩) rfl (Nat.le_of_ble_eq_true rfl) ⟨Nat.le_of_ble_eq_true rfl, Nat.le_of_ble_eq_true rfl⟩ [] [] [zi (zb (decide (97 ≤ ch ∧ ch ≤ 122)))] rfl rfl rfl rfl ?_
  refine z_ifb_eq Z 13 dX4_partAfter_4 (by decide) (fun h4 => ?_) (fun h4 => ?_)
  · have h4 := of_decide_eq_false h4
    refine z_iload_n Z dX4_partAfter_13 0 rfl ?_
    refine z_if_ne Z 35 dX4_partAfter_14 (by decide) (by omega) (fun h14 => ?_) (fun h14 => ?_)
    · refine z_iload_n Z dX4_partAfter_35 1 rfl ?_
      refine z_if_ne Z 41 dX4_partAfter_36 (by decide) (by omega) (fun h36 => ?_) (fun h36 => ?_)
      · refine z_iload_n Z dX4_partAfter_41 0 rfl ?_
        refine z_iconst (v := 1) Z dX4_partAfter_42 rfl ?_
        refine z_icmp_ne Z 58 dX4_partAfter_43 (by decide) (by omega) (by omega) (fun h43 => ?_) (fun h43 => ?_)
        · refine z_iload_n Z dX4_partAfter_58 2 rfl ?_
          refine z_bipush (v := 59) Z dX4_partAfter_59 (by decide +kernel) ?_
          refine z_icmp_ne Z 68 dX4_partAfter_61 (by decide) (by omega) (by omega) (fun h61 => ?_) (fun h61 => ?_)
          · refine z_iconst (v := 3) Z dX4_partAfter_68 rfl ?_
            refine z_eqs [] _ [zi ((paC pt lt ch : Nat) : Int)] (rfl) rfl (congrArg (fun z => [zi z]) (by unfold paC; (repeat' split) <;> omega)) ?_
            exact hR _ _ () trivial dX4_partAfter_69
          · refine z_iconst (v := 0) Z dX4_partAfter_64 rfl ?_
            refine z_goto Z 69 dX4_partAfter_65 (by decide) ?_
            refine z_eqs [] _ [zi ((paC pt lt ch : Nat) : Int)] (rfl) rfl (congrArg (fun z => [zi z]) (by unfold paC; (repeat' split) <;> omega)) ?_
            exact hR _ _ () trivial dX4_partAfter_69
        · refine z_iload_n Z dX4_partAfter_46 2 rfl ?_
          refine z_bipush (v := 61) Z dX4_partAfter_47 (by decide +kernel) ?_
          refine z_icmp_ne Z 56 dX4_partAfter_49 (by decide) (by omega) (by omega) (fun h49 => ?_) (fun h49 => ?_)
          · refine z_iconst (v := 3) Z dX4_partAfter_56 rfl ?_
            refine z_eqs [] _ [zi ((paC pt lt ch : Nat) : Int)] (rfl) rfl (congrArg (fun z => [zi z]) (by unfold paC; (repeat' split) <;> omega)) ?_
            exact hR _ _ () trivial dX4_partAfter_57
          · refine z_iconst (v := 2) Z dX4_partAfter_52 rfl ?_
            refine z_goto Z 57 dX4_partAfter_53 (by decide) ?_
            refine z_eqs [] _ [zi ((paC pt lt ch : Nat) : Int)] (rfl) rfl (congrArg (fun z => [zi z]) (by unfold paC; (repeat' split) <;> omega)) ?_
            exact hR _ _ () trivial dX4_partAfter_57
      · refine z_iconst (v := 3) Z dX4_partAfter_39 rfl ?_
        refine z_eqs [] _ [zi ((paC pt lt ch : Nat) : Int)] (rfl) rfl (congrArg (fun z => [zi z]) (by unfold paC; (repeat' split) <;> omega)) ?_
        exact hR _ _ () trivial dX4_partAfter_40
    · refine z_iload_n Z dX4_partAfter_17 2 rfl ?_
      refine z_bipush (v := 43) Z dX4_partAfter_18 (by decide +kernel) ?_
      refine z_icmp_eq Z 29 dX4_partAfter_20 (by decide) (by omega) (by omega) (fun h20 => ?_) (fun h20 => ?_)
      · refine z_iconst (v := 2) Z dX4_partAfter_29 rfl ?_
        refine z_goto Z 34 dX4_partAfter_30 (by decide) ?_
        refine z_eqs [] _ [zi ((paC pt lt ch : Nat) : Int)] (rfl) rfl (congrArg (fun z => [zi z]) (by unfold paC; (repeat' split) <;> omega)) ?_
        exact hR _ _ () trivial dX4_partAfter_34
      · refine z_iload_n Z dX4_partAfter_23 2 rfl ?_
        refine z_bipush (v := 45) Z dX4_partAfter_24 (by decide +kernel) ?_
        refine z_icmp_ne Z 33 dX4_partAfter_26 (by decide) (by omega) (by omega) (fun h26 => ?_) (fun h26 => ?_)
        · refine z_iconst (v := 3) Z dX4_partAfter_33 rfl ?_
          refine z_eqs [] _ [zi ((paC pt lt ch : Nat) : Int)] (rfl) rfl (congrArg (fun z => [zi z]) (by unfold paC; (repeat' split) <;> omega)) ?_
          exact hR _ _ () trivial dX4_partAfter_34
        · refine z_iconst (v := 2) Z dX4_partAfter_29 rfl ?_
          refine z_goto Z 34 dX4_partAfter_30 (by decide) ?_
          refine z_eqs [] _ [zi ((paC pt lt ch : Nat) : Int)] (rfl) rfl (congrArg (fun z => [zi z]) (by unfold paC; (repeat' split) <;> omega)) ?_
          exact hR _ _ () trivial dX4_partAfter_34
  · have h4 := of_decide_eq_true h4
    refine z_iload_n Z dX4_partAfter_7 0 rfl ?_
    refine z_iload_n Z dX4_partAfter_8 1 rfl ?_
    refine z_callSu (rest := []) Z dX4_partAfter_9 (zc_X4_partAfterLetter l D ct (pt) (lt) (by first | assumption | omega) (by first | assumption | omega)) (va_cwS 2 Z.1.2.2.2.2 gX4_partAfter_X4_partAfterLetter rfl rfl rfl (by decide +kernel) ⟨Nat.le_of_ble_eq_true rfl, Nat.le_of_ble_eq_true rfl⟩) rfl (Nat.le_of_ble_eq_true rfl) ⟨Nat.le_of_ble_eq_true rfl, Nat.le_of_ble_eq_true rfl⟩ [] [] [zi ((plF pt lt : Nat) : Int)] rfl rfl rfl rfl ?_
    refine z_eqs [] _ [zi ((paC pt lt ch : Nat) : Int)] (rfl) rfl (congrArg (fun z => [zi z]) (by unfold paC; rw [if_pos (by omega)])) ?_
    exact hR _ _ () trivial dX4_partAfter_12
theorem zin_X4_commandError_X4 : ∀ w ∈ wsX40, w ∈ wsX4_commandError := by decide +kernel
theorem zlk_X4_commandError_15 : Cond.fieldLink RX4 15 "HashedDirectory$Text" "length" "I" ∈ wsX4_commandError := by decide +kernel
theorem zlk_X4_commandError_9 : Cond.fieldLink RX4 9 "HashedDirectory$Text" "characters" "[I" ∈ wsX4_commandError := by decide +kernel
set_option maxHeartbeats 4000000 in
set_option maxRecDepth 100000 in
theorem zc_X4_commandError (l : Launch) (D : va_G) (ct : zCT) (h0 : Nat) (aC : Nat) (tx : Nat → Nat) (len : Nat) (hl : len ≤ 80) (ht : ∀ j, j < 80 → tx j < 128) : zMet l yX4_commandError wsX4_commandError ({ frames := 2, cells := 0, slots := 0, locals := 43 } : Room) D ct [.ref h0] [zO h0 3 [.ref aC, zi ((len : Nat) : Int)], zAI ct aC 80 (zN tx)] (fun _ : Unit => True) (fun _ => some (zi ((ceF tx len len 0 0 0)))) (fun _ => [zO h0 3 [.ref aC, zi ((len : Nat) : Int)], zAI ct aC 80 (zN tx)]) 0 0 := by
  refine zMet_i (cc := cX4_commandError) (maxL := 5) (r := fun _ => (ceF tx len len 0 0 0)) (by decide) rfl (Nat.le_of_ble_eq_true rfl) ?_
  intro p e s m below meth c A Q Z hnm hR
  refine z_eqs _ [(0, .ref h0)] _ rfl rfl rfl ?_
  refine z_iconst (v := 0) Z dX4_commandError_0 rfl ?_
  refine z_istore_n Z dX4_commandError_1 [(1, zi 0), (0, .ref h0)] (by decide) rfl ?_
  refine z_iconst (v := 0) Z dX4_commandError_2 rfl ?_
  refine z_istore_n Z dX4_commandError_3 [(2, zi 0), (1, zi 0), (0, .ref h0)] (by decide) rfl ?_
  refine z_iconst (v := 0) Z dX4_commandError_4 rfl ?_
  refine z_istore_n Z dX4_commandError_5 [(3, zi 0), (2, zi 0), (1, zi 0), (0, .ref h0)] (by decide) rfl ?_
  refine z_lsub [3, 2, 1, 0] [(0, .ref h0), (1, zi 0), (2, zi 0), (3, zi 0)] rfl ?_
  have LOOP6 : ∀ (N0 : Nat) (pt lt i : Nat) (x1 : Int) (x2 : Int) (x3 : Int), len + 1 - i < N0 → x1 = ((pt : Nat) : Int) → x2 = ((lt : Nat) : Int) → x3 = ((i : Nat) : Int) → (pt < 3) → (lt ≤ 80) → (i ≤ len) → (lt ≤ i) → (ceF tx len (len - i) i pt lt = ceF tx len len 0 0 0) → zW p l e ({ frames := 2, cells := 0, slots := 0, locals := 43 } : Room) s m ([.ref h0] : List Value).toArray below meth c D A 5 Q 0 0 [zO h0 3 [.ref aC, zi ((len : Nat) : Int)], zAI ct aC 80 (zN tx)] [(0, .ref h0), (1, zi x1), (2, zi x2), (3, zi x3)] 6 [] := by
    intro N0
    induction N0 with
    | zero => intro pt lt i x1 x2 x3 hm0; exact absurd hm0 (Nat.not_lt_zero _)
    | succ N0 ih0 =>
      intro pt lt i x1 x2 x3 hm0 ex1 ex2 ex3 hpt hlt hi hlt2 he
      subst ex1
      subst ex2
      subst ex3
      refine z_iload_n Z dX4_commandError_6 3 rfl ?_
      refine z_aload_n Z dX4_commandError_7 0 rfl ?_
      refine z_get Z dX4_commandError_8 zin_X4_commandError_X4 0 1 rfl rfl (by decide) zlk_X4_commandError_15 rfl ?_
      refine z_icmp_ge Z 59 dX4_commandError_11 (by decide) (by omega) (by omega) (fun h11 => ?_) (fun h11 => ?_)
      · refine z_iload_n Z dX4_commandError_59 1 rfl ?_
        refine z_iconst (v := 2) Z dX4_commandError_60 rfl ?_
        refine z_icmp_ne Z 73 dX4_commandError_61 (by decide) (by omega) (by omega) (fun h61 => ?_) (fun h61 => ?_)
        · refine z_aload_n Z dX4_commandError_73 0 rfl ?_
          refine z_get Z dX4_commandError_74 zin_X4_commandError_X4 0 1 rfl rfl (by decide) zlk_X4_commandError_15 rfl ?_
          refine z_eqs [zO h0 3 [.ref aC, zi ((len : Nat) : Int)], zAI ct aC 80 (zN tx)] _ [zi (ceF tx len len 0 0 0)] (rfl) rfl (congrArg (fun z => [zi z]) (by rw [← he, show len - i = 0 from by omega]; show _ = (if pt = 2 ∧ 0 < lt then (-2 : Int) else ((len : Nat) : Int)); rw [if_neg (by omega)])) ?_
          exact hR _ _ () trivial dX4_commandError_77
        · refine z_iload_n Z dX4_commandError_64 2 rfl ?_
          refine z_if_le Z 73 dX4_commandError_65 (by decide) (by omega) (fun h65 => ?_) (fun h65 => ?_)
          · refine z_aload_n Z dX4_commandError_73 0 rfl ?_
            refine z_get Z dX4_commandError_74 zin_X4_commandError_X4 0 1 rfl rfl (by decide) zlk_X4_commandError_15 rfl ?_
            refine z_eqs [zO h0 3 [.ref aC, zi ((len : Nat) : Int)], zAI ct aC 80 (zN tx)] _ [zi (ceF tx len len 0 0 0)] (rfl) rfl (congrArg (fun z => [zi z]) (by rw [← he, show len - i = 0 from by omega]; show _ = (if pt = 2 ∧ 0 < lt then (-2 : Int) else ((len : Nat) : Int)); rw [if_neg (by omega)])) ?_
            exact hR _ _ () trivial dX4_commandError_77
          · refine z_bipush (v := -2) Z dX4_commandError_68 (by decide +kernel) ?_
            refine z_goto Z 77 dX4_commandError_70 (by decide) ?_
            refine z_eqs [zO h0 3 [.ref aC, zi ((len : Nat) : Int)], zAI ct aC 80 (zN tx)] _ [zi (ceF tx len len 0 0 0)] (rfl) rfl (congrArg (fun z => [zi z]) (by rw [← he, show len - i = 0 from by omega]; show _ = (if pt = 2 ∧ 0 < lt then (-2 : Int) else ((len : Nat) : Int)); rw [if_pos (by omega)])) ?_
            exact hR _ _ () trivial dX4_commandError_77
      · refine z_aload_n Z dX4_commandError_14 0 rfl ?_
        refine z_get Z dX4_commandError_15 zin_X4_commandError_X4 0 0 rfl rfl (by decide) zlk_X4_commandError_9 rfl ?_
        refine z_iload_n Z dX4_commandError_18 3 rfl ?_
        refine z_ialdN Z dX4_commandError_19 1 (i) rfl (rfl) ⟨by omega, by omega⟩ ?_
        have he1 := ht (i) (by omega)
        refine z_istore Z dX4_commandError_20 [(4, zi ((tx i : Nat) : Int)), (0, .ref h0), (1, zi ((pt : Nat) : Int)), (2, zi ((lt : Nat) : Int)), (3, zi ((i : Nat) : Int))] (by decide) rfl ?_
        refine z_iload_n Z dX4_commandError_22 2 rfl ?_
        refine z_iload_n Z dX4_commandError_23 3 rfl ?_
        refine z_iload Z dX4_commandError_24 0 rfl ?_
        refine z_callSu (rest := []) Z dX4_commandError_26 (zc_X4_partAfter l D ct (pt) (lt) (tx i) (by first | assumption | omega) (by first | assumption | omega) (by first | assumption | omega)) (va_cwS 3 Z.1.2.2.2.2 gX4_commandError_X4_partAfter rfl rfl rfl (by decide +kernel) ⟨Nat.le_of_ble_eq_true rfl, Nat.le_of_ble_eq_true rfl⟩) rfl (Nat.le_of_ble_eq_true rfl) ⟨Nat.le_of_ble_eq_true rfl, Nat.le_of_ble_eq_true rfl⟩ [false, false] [zO h0 3 [.ref aC, zi ((len : Nat) : Int)], zAI ct aC 80 (zN tx)] [zi ((paC pt lt (tx i) : Nat) : Int)] rfl rfl rfl rfl ?_
        have hq9 := paC_lt pt lt (tx i) hpt
        have he9 := he
        refine z_istore_n Z dX4_commandError_29 [(1, zi ((paC pt lt (tx i) : Nat) : Int)), (4, zi ((tx i : Nat) : Int)), (0, .ref h0), (2, zi ((lt : Nat) : Int)), (3, zi ((i : Nat) : Int))] (by decide) rfl ?_
        refine z_iload_n Z dX4_commandError_30 0 rfl ?_
        refine z_iconst (v := 3) Z dX4_commandError_31 rfl ?_
        refine z_icmp_ne Z 37 dX4_commandError_32 (by decide) (by omega) (by omega) (fun h32 => ?_) (fun h32 => ?_)
        · refine z_iload Z dX4_commandError_37 1 rfl ?_
          refine z_callSu (rest := []) Z dX4_commandError_39 (zc_X2_isLetter l D ct (tx i) (by first | assumption | omega)) (va_cwS 1 Z.1.2.2.2.2 gX4_commandError_X2_isLetter rfl rfl rfl (by decide +kernel) ⟨Nat.le_of_ble_eq_true rfl, Nat.le_of_ble_eq_true rfl⟩) rfl (Nat.le_of_ble_eq_true rfl) ⟨Nat.le_of_ble_eq_true rfl, Nat.le_of_ble_eq_true rfl⟩ [false, false] [zO h0 3 [.ref aC, zi ((len : Nat) : Int)], zAI ct aC 80 (zN tx)] [zi (zb (decide (97 ≤ (tx i) ∧ (tx i) ≤ 122)))] rfl rfl rfl rfl ?_
          refine z_ifb_eq Z 51 dX4_commandError_42 (by decide) (fun h42 => ?_) (fun h42 => ?_)
          · have h42 := of_decide_eq_false h42
            refine z_iconst (v := 0) Z dX4_commandError_51 rfl ?_
            refine z_istore_n Z dX4_commandError_52 [(2, zi 0), (1, zi ((paC pt lt (tx i) : Nat) : Int)), (4, zi ((tx i : Nat) : Int)), (0, .ref h0), (3, zi ((i : Nat) : Int))] (by decide) rfl ?_
            refine z_iinc (v := ((i + 1 : Nat) : Int)) Z dX4_commandError_53 4 [(3, zi ((i + 1 : Nat) : Int)), (2, zi 0), (1, zi ((paC pt lt (tx i) : Nat) : Int)), (4, zi ((tx i : Nat) : Int)), (0, .ref h0)] rfl (by omega) (by decide) rfl ?_
            refine z_goto Z 6 dX4_commandError_56 (by decide) ?_
            refine z_lsub [4, 2, 1, 0] [(0, .ref h0), (1, zi ((paC pt lt (tx i) : Nat) : Int)), (2, zi 0), (3, zi ((i + 1 : Nat) : Int))] rfl ?_
            exact ih0 (paC pt lt (tx i)) 0 (i + 1) _ _ _ (by omega) (by first | rfl | omega) (by first | rfl | omega) (by first | rfl | omega)  (by omega) (by first | assumption | omega) (by first | assumption | omega) (by first | assumption | omega) (by refine Eq.trans ?_ ((ceF_next (by omega) (by omega)).symm.trans he); rw [if_neg (by omega)])
          · have h42 := of_decide_eq_true h42
            refine z_iload_n Z dX4_commandError_45 3 rfl ?_
            refine z_iconst (v := 1) Z dX4_commandError_46 rfl ?_
            refine z_iadd Z dX4_commandError_47 ?_
            refine z_top (y := ((lt + 1 : Nat) : Int)) (by omega) ?_
            refine z_goto Z 52 dX4_commandError_48 (by decide) ?_
            refine z_istore_n Z dX4_commandError_52 [(2, zi ((lt + 1 : Nat) : Int)), (1, zi ((paC pt lt (tx i) : Nat) : Int)), (4, zi ((tx i : Nat) : Int)), (0, .ref h0), (3, zi ((i : Nat) : Int))] (by decide) rfl ?_
            refine z_iinc (v := ((i + 1 : Nat) : Int)) Z dX4_commandError_53 4 [(3, zi ((i + 1 : Nat) : Int)), (2, zi ((lt + 1 : Nat) : Int)), (1, zi ((paC pt lt (tx i) : Nat) : Int)), (4, zi ((tx i : Nat) : Int)), (0, .ref h0)] rfl (by omega) (by decide) rfl ?_
            refine z_goto Z 6 dX4_commandError_56 (by decide) ?_
            refine z_lsub [4, 2, 1, 0] [(0, .ref h0), (1, zi ((paC pt lt (tx i) : Nat) : Int)), (2, zi ((lt + 1 : Nat) : Int)), (3, zi ((i + 1 : Nat) : Int))] rfl ?_
            exact ih0 (paC pt lt (tx i)) (lt + 1) (i + 1) _ _ _ (by omega) (by first | rfl | omega) (by first | rfl | omega) (by first | rfl | omega)  (by omega) (by first | assumption | omega) (by first | assumption | omega) (by first | assumption | omega) (by refine Eq.trans ?_ ((ceF_next (by omega) (by omega)).symm.trans he); rw [if_pos (by omega)])
        · refine z_iload_n Z dX4_commandError_35 4 rfl ?_
          refine z_eqs [zO h0 3 [.ref aC, zi ((len : Nat) : Int)], zAI ct aC 80 (zN tx)] _ [zi (ceF tx len len 0 0 0)] (rfl) rfl (congrArg (fun z => [zi z]) (by rw [← he, ceF_bad (by omega) (by omega)])) ?_
          exact hR _ _ () trivial dX4_commandError_36
  exact LOOP6 (len + 1 - 0 + 1) 0 0 0 _ _ _ (Nat.lt_succ_self _) (by first | rfl | omega) (by first | rfl | omega) (by first | rfl | omega)  (by first | assumption | omega) (by first | assumption | omega) (by first | assumption | omega) (by first | assumption | omega) (by rw [Nat.sub_zero])
