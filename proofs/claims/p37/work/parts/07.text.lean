/-! plain numbers for the text -/
def chP (tx : Nat → Nat) (ch a : Nat) : Nat → Bool := fun j => decide (tx (a + j) = ch)
def ioF (tx : Nat → Nat) (ch a b : Nat) : Nat := a + fiF (chP tx ch a) (b - a)
theorem ioF_eq {tx : Nat → Nat} {ch a b i : Nat} (h1 : a ≤ i) (h2 : i ≤ b) (h3 : ∀ j, j < i - a → chP tx ch a j = false) (h4 : i < b → tx i = ch) : ioF tx ch a b = i := by
  unfold ioF
  rw [fiF_eq (k := i - a) (by omega) h3 (fun h => decide_eq_true (by rw [show a + (i - a) = i by omega]; exact h4 (by omega)))]
  omega
theorem chP_next {tx : Nat → Nat} {ch a i : Nat} (h1 : a ≤ i) (h3 : ∀ j, j < i - a → chP tx ch a j = false) (h : tx i ≠ ch) : ∀ j, j < i + 1 - a → chP tx ch a j = false := by
  intro j hj
  rcases Nat.lt_or_ge j (i - a) with h9 | h9
  · exact h3 j h9
  · exact decide_eq_false (by rw [show a + j = i by omega]; exact h)
theorem ltr_next {tx : Nat → Nat} {a i : Nat} (h1 : a ≤ i) (h3 : ∀ j, j < i - a → 97 ≤ tx (a + j) ∧ tx (a + j) ≤ 122) (h : 97 ≤ tx i ∧ tx i ≤ 122) : ∀ j, j < i + 1 - a → 97 ≤ tx (a + j) ∧ tx (a + j) ≤ 122 := by
  intro j hj
  rcases Nat.lt_or_ge j (i - a) with h9 | h9
  · exact h3 j h9
  · rw [show a + j = i by omega]; exact h
/-- k letters from a place on, as a name -/
def pkF (tx : Nat → Nat) (a : Nat) : Nat → Nat
  | 0 => 0
  | k + 1 => pkF tx a k + (tx (a + k) - 96) * 2 ^ (25 - 5 * k)
theorem pkF_ok {tx : Nat → Nat} {a k : Nat} (h : ∀ j, j < k → 97 ≤ tx (a + j) ∧ tx (a + j) ≤ 122) (hk : k ≤ 6) : pkF tx a k % 2 ^ (30 - 5 * k) = 0 ∧ pkF tx a k + 2 ^ (30 - 5 * k) ≤ 1073741824 := by
  induction k with
  | zero => exact ⟨by simp [pkF], by simp [pkF]⟩
  | succ k ih =>
    obtain ⟨h1, h2⟩ := ih (fun j hj => h j (by omega)) (by omega)
    have h3 := h k (by omega)
    have h4 : pkF tx a (k + 1) = pkF tx a k + (tx (a + k) - 96) * 2 ^ (25 - 5 * k) := rfl
    rw [h4]
    have hk6 : k = 0 ∨ k = 1 ∨ k = 2 ∨ k = 3 ∨ k = 4 ∨ k = 5 := by omega
    rcases hk6 with rfl | rfl | rfl | rfl | rfl | rfl <;> simp only [Nat.reduceMul, Nat.reduceSub, Nat.reducePow, Nat.reduceAdd] at h1 h2 ⊢ <;> omega
def nbF (tx : Nat → Nat) (a b : Nat) : Nat := if b - a ≤ 6 ∧ ∀ j, j < b - a → 97 ≤ tx (a + j) ∧ tx (a + j) ≤ 122 then pkF tx a (b - a) else 0
theorem nbF_lt (tx : Nat → Nat) (a b : Nat) : nbF tx a b < 1073741824 := by
  unfold nbF
  split
  · rename_i h
    have := pkF_ok h.2 h.1
    have h2 : 0 < 2 ^ (30 - 5 * (b - a)) := Nat.pow_pos (by decide)
    omega
  · decide
/-- the text's error position -/
def plF (pt lt : Nat) : Nat := if lt < 6 then (if pt = 0 then 1 else pt) else 3
def paC (pt lt ch : Nat) : Nat := if 97 ≤ ch ∧ ch ≤ 122 then plF pt lt else if pt = 0 then (if ch = 43 ∨ ch = 45 then 2 else 3) else if lt = 0 then 3 else if pt = 1 then (if ch = 61 then 2 else 3) else (if ch = 59 then 0 else 3)
theorem paC_lt (pt lt ch : Nat) (h : pt < 3) : paC pt lt ch < 4 := by
  unfold paC plF
  repeat' split
  all_goals omega
def ceF (tx : Nat → Nat) (len : Nat) : Nat → Nat → Nat → Nat → Int
  | 0, _, pt, lt => if pt = 2 ∧ 0 < lt then (-2 : Int) else ((len : Nat) : Int)
  | k + 1, i, pt, lt => if paC pt lt (tx i) = 3 then ((i : Nat) : Int) else ceF tx len k (i + 1) (paC pt lt (tx i)) (if 97 ≤ tx i ∧ tx i ≤ 122 then lt + 1 else 0)
theorem ceF_bad {tx : Nat → Nat} {len i pt lt : Nat} (hi : i < len) (h : paC pt lt (tx i) = 3) : ceF tx len (len - i) i pt lt = ((i : Nat) : Int) := by
  obtain ⟨k, hk⟩ : ∃ k, len - i = k + 1 := ⟨len - i - 1, by omega⟩
  rw [hk]
  show (if paC pt lt (tx i) = 3 then ((i : Nat) : Int) else _) = _
  rw [if_pos h]
theorem ceF_next {tx : Nat → Nat} {len i pt lt : Nat} (hi : i < len) (h : paC pt lt (tx i) ≠ 3) : ceF tx len (len - i) i pt lt = ceF tx len (len - (i + 1)) (i + 1) (paC pt lt (tx i)) (if 97 ≤ tx i ∧ tx i ≤ 122 then lt + 1 else 0) := by
  obtain ⟨k, hk⟩ : ∃ k, len - i = k + 1 := ⟨len - i - 1, by omega⟩
  rw [hk, show len - (i + 1) = k by omega]
  show (if paC pt lt (tx i) = 3 then ((i : Nat) : Int) else _) = _
  rw [if_neg h]
theorem wl_0 {nm ch i : Nat} (hi : i < 6) (hc : 97 ≤ ch ∧ ch ≤ 122) (hn : nm % 2 ^ (30 - 5 * i) = 0) : zI ((nm : Nat) : Int) ||| zI (((ch - 96) * 2 ^ (25 - 5 * i) : Nat) : Int) = zI ((nm + (ch - 96) * 2 ^ (25 - 5 * i) : Nat) : Int) := by
  refine zq_or (k := 30 - 5 * i) ?_ hn
  have hk6 : i = 0 ∨ i = 1 ∨ i = 2 ∨ i = 3 ∨ i = 4 ∨ i = 5 := by omega
  rcases hk6 with rfl | rfl | rfl | rfl | rfl | rfl <;> simp only [Nat.reduceMul, Nat.reduceSub, Nat.reducePow] <;> omega
theorem wl_1 {ch i : Nat} (hi : i < 6) (hc : 97 ≤ ch ∧ ch ≤ 122) : (ch - 96) * 2 ^ (25 - 5 * i) < 2147483648 := by
  have hk6 : i = 0 ∨ i = 1 ∨ i = 2 ∨ i = 3 ∨ i = 4 ∨ i = 5 := by omega
  rcases hk6 with rfl | rfl | rfl | rfl | rfl | rfl <;> simp only [Nat.reduceMul, Nat.reduceSub, Nat.reducePow] <;> omega
set_option maxHeartbeats 4000000 in
set_option maxRecDepth 100000 in
theorem zc_X2_withLetter (l : Launch) (D : va_G) (ct : zCT) (nm : Nat) (i : Nat) (ch : Nat) (hi : i < 6) (hc : 97 ≤ ch ∧ ch ≤ 122) (hn : nm % 2 ^ (30 - 5 * i) = 0) : zMet l yX2_withLetter wsX2_withLetter ({ frames := 1, cells := 0, slots := 0, locals := 20 } : Room) D ct [zi ((nm : Nat) : Int), zi ((i : Nat) : Int), zi ((ch : Nat) : Int)] [] (fun _ : Unit => True) (fun _ => some (zi (((nm + (ch - 96) * 2 ^ (25 - 5 * i) : Nat) : Int)))) (fun _ => []) 0 0 := by
  refine zMet_i (cc := cX2_withLetter) (maxL := 3) (r := fun _ => ((nm + (ch - 96) * 2 ^ (25 - 5 * i) : Nat) : Int)) (by decide) rfl (Nat.le_of_ble_eq_true rfl) ?_
  intro p e s m below meth c A Q Z hnm hR
  refine z_eqs _ [(0, zi ((nm : Nat) : Int)), (1, zi ((i : Nat) : Int)), (2, zi ((ch : Nat) : Int))] _ rfl rfl rfl ?_
  refine z_iload_n Z dX2_withLetter_0 0 rfl ?_
  refine z_iload_n Z dX2_withLetter_1 2 rfl ?_
  refine z_bipush (v := 97) Z dX2_withLetter_2 (by decide +kernel) ?_
  refine z_isub Z dX2_withLetter_4 ?_
  refine z_iconst (v := 1) Z dX2_withLetter_5 rfl ?_
  refine z_iadd Z dX2_withLetter_6 ?_
  refine z_top (y := ((ch - 96 : Nat) : Int)) (by omega) ?_
  refine z_iload_n Z dX2_withLetter_7 1 rfl ?_
  refine z_callSu (rest := [zi ((ch - 96 : Nat) : Int), zi ((nm : Nat) : Int)]) Z dX2_withLetter_8 (zc_X2_shiftOf l D ct (i) (by first | assumption | omega)) (va_cwS 1 Z.1.2.2.2.2 gX2_withLetter_X2_shiftOf rfl rfl rfl (by decide +kernel) ⟨Nat.le_of_ble_eq_true rfl, Nat.le_of_ble_eq_true rfl⟩) rfl (Nat.le_of_ble_eq_true rfl) ⟨Nat.le_of_ble_eq_true rfl, Nat.le_of_ble_eq_true rfl⟩ [] [] [zi ((25 - 5 * i : Nat) : Int), zi ((ch - 96 : Nat) : Int), zi ((nm : Nat) : Int)] rfl rfl rfl rfl ?_
  refine z_ishl (v := (((ch - 96) * 2 ^ (25 - 5 * i) : Nat) : Int)) Z dX2_withLetter_11 (zq_shl (by omega) (wl_1 hi hc)) ?_
  refine z_ior (v := ((nm + (ch - 96) * 2 ^ (25 - 5 * i) : Nat) : Int)) Z dX2_withLetter_12 (wl_0 hi hc hn) ?_
  refine z_eqs [] _ [zi ((nm + (ch - 96) * 2 ^ (25 - 5 * i) : Nat) : Int)] (rfl) rfl (rfl) ?_
  exact hR _ _ () trivial dX2_withLetter_13
theorem zin_X4_append_X4 : ∀ w ∈ wsX40, w ∈ wsX4_append := by decide +kernel
theorem zlk_X4_append_9 : Cond.fieldLink RX4 9 "HashedDirectory$Text" "characters" "[I" ∈ wsX4_append := by decide +kernel
theorem zlk_X4_append_15 : Cond.fieldLink RX4 15 "HashedDirectory$Text" "length" "I" ∈ wsX4_append := by decide +kernel
set_option maxHeartbeats 4000000 in
set_option maxRecDepth 100000 in
theorem zc_X4_append (l : Launch) (D : va_G) (ct : zCT) (h0 : Nat) (aC : Nat) (tx : Nat → Nat) (len : Nat) (ch : Nat) (hl : len < 80) : zMet l yX4_append wsX4_append ({ frames := 0, cells := 0, slots := 0, locals := 0 } : Room) D ct [.ref h0, zi ((ch : Nat) : Int)] [zO h0 3 [.ref aC, zi ((len : Nat) : Int)], zAI ct aC 80 (zN tx)] (fun _ : Unit => True) (fun _ => none) (fun _ => [zO h0 3 [.ref aC, zi ((len + 1 : Nat) : Int)], zAI ct aC 80 (zN (zU tx len ch))]) 0 0 := by
  refine zMet_v (cc := cX4_append) (maxL := 2) (by decide) rfl (Nat.le_of_ble_eq_true rfl) ?_
  intro p e s m below meth c A Q Z hnm hR
  refine z_eqs _ [(0, .ref h0), (1, zi ((ch : Nat) : Int))] _ rfl rfl rfl ?_
  refine z_aload_n Z dX4_append_0 0 rfl ?_
  refine z_get Z dX4_append_1 zin_X4_append_X4 0 0 rfl rfl (by decide) zlk_X4_append_9 rfl ?_
  refine z_aload_n Z dX4_append_4 0 rfl ?_
  refine z_get Z dX4_append_5 zin_X4_append_X4 0 1 rfl rfl (by decide) zlk_X4_append_15 rfl ?_
  refine z_iload_n Z dX4_append_8 1 rfl ?_
  refine z_iastN Z dX4_append_9 1 (len) [zO h0 3 [.ref aC, zi ((len : Nat) : Int)], zAI ct aC 80 (zN (zU tx len ch))] rfl (rfl) ⟨by omega, by omega⟩ rfl ?_
  refine z_aload_n Z dX4_append_10 0 rfl ?_
  refine z_dup Z dX4_append_11 rfl ?_
  refine z_get Z dX4_append_12 zin_X4_append_X4 0 1 rfl rfl (by decide) zlk_X4_append_15 rfl ?_
  refine z_iconst (v := 1) Z dX4_append_15 rfl ?_
  refine z_iadd Z dX4_append_16 ?_
  refine z_top (y := ((len + 1 : Nat) : Int)) (by omega) ?_
  refine z_put (ty := .int) Z dX4_append_17 zin_X4_append_X4 tyX4 tyX4_ok nmX4 0 1 [zO h0 3 [.ref aC, zi ((len + 1 : Nat) : Int)], zAI ct aC 80 (zN (zU tx len ch))] rfl rfl (by decide) zlk_X4_append_15 rfl (by decide +kernel) rfl rfl (Nat.le_of_ble_eq_true rfl) rfl ?_
  refine z_eqs [zO h0 3 [.ref aC, zi ((len + 1 : Nat) : Int)], zAI ct aC 80 (zN (zU tx len ch))] _ [] (rfl) rfl (rfl) ?_
  exact hR _ _ () trivial dX4_append_20
theorem zin_X4_empty_X4 : ∀ w ∈ wsX40, w ∈ wsX4_empty := by decide +kernel
theorem zlk_X4_empty_15 : Cond.fieldLink RX4 15 "HashedDirectory$Text" "length" "I" ∈ wsX4_empty := by decide +kernel
set_option maxHeartbeats 4000000 in
set_option maxRecDepth 100000 in
theorem zc_X4_empty (l : Launch) (D : va_G) (ct : zCT) (h0 : Nat) (aC : Nat) (tx : Nat → Nat) (len : Nat)  : zMet l yX4_empty wsX4_empty ({ frames := 0, cells := 0, slots := 0, locals := 0 } : Room) D ct [.ref h0] [zO h0 3 [.ref aC, zi ((len : Nat) : Int)], zAI ct aC 80 (zN tx)] (fun _ : Unit => True) (fun _ => none) (fun _ => [zO h0 3 [.ref aC, zi 0], zAI ct aC 80 (zN tx)]) 0 0 := by
  refine zMet_v (cc := cX4_empty) (maxL := 1) (by decide) rfl (Nat.le_of_ble_eq_true rfl) ?_
  intro p e s m below meth c A Q Z hnm hR
  refine z_eqs _ [(0, .ref h0)] _ rfl rfl rfl ?_
  refine z_aload_n Z dX4_empty_0 0 rfl ?_
  refine z_iconst (v := 0) Z dX4_empty_1 rfl ?_
  refine z_put (ty := .int) Z dX4_empty_2 zin_X4_empty_X4 tyX4 tyX4_ok nmX4 0 1 [zO h0 3 [.ref aC, zi 0], zAI ct aC 80 (zN tx)] rfl rfl (by decide) zlk_X4_empty_15 rfl (by decide +kernel) rfl rfl (Nat.le_of_ble_eq_true rfl) rfl ?_
  refine z_eqs [zO h0 3 [.ref aC, zi 0], zAI ct aC 80 (zN tx)] _ [] (rfl) rfl (rfl) ?_
  exact hR _ _ () trivial dX4_empty_5
theorem zin_X4_nameBetween_X4 : ∀ w ∈ wsX40, w ∈ wsX4_nameBetween := by decide +kernel
theorem zlk_X4_nameBetween_9 : Cond.fieldLink RX4 9 "HashedDirectory$Text" "characters" "[I" ∈ wsX4_nameBetween := by decide +kernel
set_option maxHeartbeats 4000000 in
set_option maxRecDepth 100000 in
theorem zc_X4_nameBetween (l : Launch) (D : va_G) (ct : zCT) (h0 : Nat) (aC : Nat) (tx : Nat → Nat) (len : Nat) (a : Nat) (b : Nat) (hl : len ≤ 80) (ht : ∀ j, j < 80 → tx j < 128) (ha : a ≤ b) (hb : b ≤ 80) : zMet l yX4_nameBetween wsX4_nameBetween ({ frames := 2, cells := 0, slots := 0, locals := 42 } : Room) D ct [.ref h0, zi ((a : Nat) : Int), zi ((b : Nat) : Int)] [zO h0 3 [.ref aC, zi ((len : Nat) : Int)], zAI ct aC 80 (zN tx)] (fun _ : Unit => True) (fun _ => some (zi (((nbF tx a b : Nat) : Int)))) (fun _ => [zO h0 3 [.ref aC, zi ((len : Nat) : Int)], zAI ct aC 80 (zN tx)]) 0 0 := by
  refine zMet_i (cc := cX4_nameBetween) (maxL := 5) (r := fun _ => ((nbF tx a b : Nat) : Int)) (by decide) rfl (Nat.le_of_ble_eq_true rfl) ?_
  intro p e s m below meth c A Q Z hnm hR
  refine z_eqs _ [(0, .ref h0), (1, zi ((a : Nat) : Int)), (2, zi ((b : Nat) : Int))] _ rfl rfl rfl ?_
  refine z_iload_n Z dX4_nameBetween_0 2 rfl ?_
  refine z_iload_n Z dX4_nameBetween_1 1 rfl ?_
  refine z_isub Z dX4_nameBetween_2 ?_
  refine z_top (y := ((b - a : Nat) : Int)) (by omega) ?_
  refine z_bipush (v := 6) Z dX4_nameBetween_3 (by decide +kernel) ?_
  refine z_icmp_le Z 10 dX4_nameBetween_5 (by decide) (by omega) (by omega) (fun h5 => ?_) (fun h5 => ?_)
  · refine z_iconst (v := 0) Z dX4_nameBetween_10 rfl ?_
    refine z_istore_n Z dX4_nameBetween_11 [(3, zi 0), (0, .ref h0), (1, zi ((a : Nat) : Int)), (2, zi ((b : Nat) : Int))] (by decide) rfl ?_
    refine z_iload_n Z dX4_nameBetween_12 2 rfl ?_
    refine z_istore Z dX4_nameBetween_13 [(4, zi ((a : Nat) : Int)), (3, zi 0), (0, .ref h0), (1, zi ((a : Nat) : Int)), (2, zi ((b : Nat) : Int))] (by decide) rfl ?_
    refine z_lsub [2, 3, 4, 1, 0] [(0, .ref h0), (1, zi ((a : Nat) : Int)), (2, zi ((b : Nat) : Int)), (3, zi 0), (4, zi ((a : Nat) : Int))] rfl ?_
    have LOOP15 : ∀ (N0 : Nat) (i : Nat) (x4 : Int) (x3 : Int), b + 1 - i < N0 → x4 = ((i : Nat) : Int) → x3 = ((pkF tx a (i - a) : Nat) : Int) → (a ≤ i) → (i ≤ b) → (∀ j, j < i - a → 97 ≤ tx (a + j) ∧ tx (a + j) ≤ 122) → zW p l e ({ frames := 2, cells := 0, slots := 0, locals := 42 } : Room) s m ([.ref h0, zi ((a : Nat) : Int), zi ((b : Nat) : Int)] : List Value).toArray below meth c D A 5 Q 0 0 [zO h0 3 [.ref aC, zi ((len : Nat) : Int)], zAI ct aC 80 (zN tx)] [(0, .ref h0), (1, zi ((a : Nat) : Int)), (2, zi ((b : Nat) : Int)), (3, zi x3), (4, zi x4)] 15 [] := by
      intro N0
      induction N0 with
      | zero => intro i x4 x3 hm0; exact absurd hm0 (Nat.not_lt_zero _)
      | succ N0 ih0 =>
        intro i x4 x3 hm0 ex4 ex3 hi hi2 hj
        subst ex4
        subst ex3
        have hp9 := pkF_ok hj (by omega)
        refine z_iload Z dX4_nameBetween_15 4 rfl ?_
        refine z_iload_n Z dX4_nameBetween_17 2 rfl ?_
        refine z_icmp_ge Z 58 dX4_nameBetween_18 (by decide) (by omega) (by omega) (fun h18 => ?_) (fun h18 => ?_)
        · refine z_iload_n Z dX4_nameBetween_58 3 rfl ?_
          refine z_eqs [zO h0 3 [.ref aC, zi ((len : Nat) : Int)], zAI ct aC 80 (zN tx)] _ [zi ((nbF tx a b : Nat) : Int)] (rfl) rfl (congrArg (fun z => [zi z]) (by unfold nbF; rw [show i = b from by omega] at hj ⊢; rw [if_pos ⟨by omega, hj⟩])) ?_
          exact hR _ _ () trivial dX4_nameBetween_59
        · refine z_aload_n Z dX4_nameBetween_21 0 rfl ?_
          refine z_get Z dX4_nameBetween_22 zin_X4_nameBetween_X4 0 0 rfl rfl (by decide) zlk_X4_nameBetween_9 rfl ?_
          refine z_iload Z dX4_nameBetween_25 4 rfl ?_
          refine z_ialdN Z dX4_nameBetween_27 1 (i) rfl (rfl) ⟨by omega, by omega⟩ ?_
          have he1 := ht (i) (by omega)
          refine z_callSu (rest := []) Z dX4_nameBetween_28 (zc_X2_isLetter l D ct (tx i) (by first | assumption | omega)) (va_cwS 1 Z.1.2.2.2.2 gX4_nameBetween_X2_isLetter rfl rfl rfl (by decide +kernel) ⟨Nat.le_of_ble_eq_true rfl, Nat.le_of_ble_eq_true rfl⟩) rfl (Nat.le_of_ble_eq_true rfl) ⟨Nat.le_of_ble_eq_true rfl, Nat.le_of_ble_eq_true rfl⟩ [false, false] [zO h0 3 [.ref aC, zi ((len : Nat) : Int)], zAI ct aC 80 (zN tx)] [zi (zb (decide (97 ≤ (tx i) ∧ (tx i) ≤ 122)))] rfl rfl rfl rfl ?_
          refine z_ifb_ne Z 36 dX4_nameBetween_31 (by decide) (fun h31 => ?_) (fun h31 => ?_)
          · have h31 := of_decide_eq_true h31
            refine z_iload_n Z dX4_nameBetween_36 3 rfl ?_
            refine z_iload Z dX4_nameBetween_37 4 rfl ?_
            refine z_iload_n Z dX4_nameBetween_39 1 rfl ?_
            refine z_isub Z dX4_nameBetween_40 ?_
            refine z_top (y := ((i - a : Nat) : Int)) (by omega) ?_
            refine z_aload_n Z dX4_nameBetween_41 0 rfl ?_
            refine z_get Z dX4_nameBetween_42 zin_X4_nameBetween_X4 0 0 rfl rfl (by decide) zlk_X4_nameBetween_9 rfl ?_
            refine z_iload Z dX4_nameBetween_45 4 rfl ?_
            refine z_ialdN Z dX4_nameBetween_47 1 (i) rfl (rfl) ⟨by omega, by omega⟩ ?_
            have he2 := ht (i) (by omega)
            refine z_callSu (rest := []) Z dX4_nameBetween_48 (zc_X2_withLetter l D ct (pkF tx a (i - a)) (i - a) (tx i) (by first | assumption | omega) (by omega) (hp9.1)) (va_cwS 3 Z.1.2.2.2.2 gX4_nameBetween_X2_withLetter rfl rfl rfl (by decide +kernel) ⟨Nat.le_of_ble_eq_true rfl, Nat.le_of_ble_eq_true rfl⟩) rfl (Nat.le_of_ble_eq_true rfl) ⟨Nat.le_of_ble_eq_true rfl, Nat.le_of_ble_eq_true rfl⟩ [false, false] [zO h0 3 [.ref aC, zi ((len : Nat) : Int)], zAI ct aC 80 (zN tx)] [zi (((pkF tx a (i - a)) + ((tx i) - 96) * 2 ^ (25 - 5 * (i - a)) : Nat) : Int)] rfl rfl rfl rfl ?_
            refine z_istore_n Z dX4_nameBetween_51 [(3, zi (((pkF tx a (i - a)) + ((tx i) - 96) * 2 ^ (25 - 5 * (i - a)) : Nat) : Int)), (0, .ref h0), (1, zi ((a : Nat) : Int)), (2, zi ((b : Nat) : Int)), (4, zi ((i : Nat) : Int))] (by decide) rfl ?_
            refine z_iinc (v := ((i + 1 : Nat) : Int)) Z dX4_nameBetween_52 4 [(4, zi ((i + 1 : Nat) : Int)), (3, zi (((pkF tx a (i - a)) + ((tx i) - 96) * 2 ^ (25 - 5 * (i - a)) : Nat) : Int)), (0, .ref h0), (1, zi ((a : Nat) : Int)), (2, zi ((b : Nat) : Int))] rfl (by omega) (by decide) rfl ?_
            refine z_goto Z 15 dX4_nameBetween_55 (by decide) ?_
            refine z_lsub [2, 3, 4, 1, 0] [(0, .ref h0), (1, zi ((a : Nat) : Int)), (2, zi ((b : Nat) : Int)), (3, zi (((pkF tx a (i - a)) + ((tx i) - 96) * 2 ^ (25 - 5 * (i - a)) : Nat) : Int)), (4, zi ((i + 1 : Nat) : Int))] rfl ?_
            exact ih0 (i + 1) _ _ (by omega) (by first | rfl | omega) (by rw [show i + 1 - a = i - a + 1 from by omega]; show _ = ((pkF tx a (i - a) + (tx (a + (i - a)) - 96) * 2 ^ (25 - 5 * (i - a)) : Nat) : Int); rw [show a + (i - a) = i from by omega])  (by first | assumption | omega) (by first | assumption | omega) (ltr_next hi hj (by omega))
          · have h31 := of_decide_eq_false h31
            refine z_iconst (v := 0) Z dX4_nameBetween_34 rfl ?_
            refine z_eqs [zO h0 3 [.ref aC, zi ((len : Nat) : Int)], zAI ct aC 80 (zN tx)] _ [zi ((nbF tx a b : Nat) : Int)] (rfl) rfl (congrArg (fun z => [zi z]) (by unfold nbF; rw [if_neg (fun z => by have := z.2 (i - a) (by omega); rw [show a + (i - a) = i from by omega] at this; omega)]; rfl)) ?_
            exact hR _ _ () trivial dX4_nameBetween_35
    exact LOOP15 (b + 1 - a + 1) a _ _ (Nat.lt_succ_self _) (by first | rfl | omega) (by rw [Nat.sub_self]; rfl)  (by first | assumption | omega) (by first | assumption | omega) (fun j hj => absurd hj (by omega))
  · refine z_iconst (v := 0) Z dX4_nameBetween_8 rfl ?_
    refine z_eqs [zO h0 3 [.ref aC, zi ((len : Nat) : Int)], zAI ct aC 80 (zN tx)] _ [zi ((nbF tx a b : Nat) : Int)] (rfl) rfl (congrArg (fun z => [zi z]) (by unfold nbF; rw [if_neg (by omega)]; rfl)) ?_
    exact hR _ _ () trivial dX4_nameBetween_9
