set_option maxHeartbeats 4000000 in
set_option maxRecDepth 100000 in
theorem zc_X5_firstHash (l : Launch) (D : va_G) (ct : zCT) (h : Nat) (d : Nat) (hh : h < 64) (hd : d < 7) : zMet l yX5_firstHash wsX5_firstHash ({ frames := 0, cells := 0, slots := 0, locals := 0 } : Room) D ct [zi ((h : Nat) : Int), zi ((d : Nat) : Int)] [] (fun _ : Unit => True) (fun _ => some (zi (((fhF h d : Nat) : Int)))) (fun _ => []) 0 0 := by
  refine zMet_i (cc := cX5_firstHash) (maxL := 2) (r := fun _ => ((fhF h d : Nat) : Int)) (by decide) rfl (Nat.le_of_ble_eq_true rfl) ?_
  intro p e s m below meth c A Q Z hnm hR
  refine z_eqs _ [(0, zi ((h : Nat) : Int)), (1, zi ((d : Nat) : Int))] _ rfl rfl rfl ?_
  refine z_iload_n Z dX5_firstHash_0 0 rfl ?_
  refine z_bipush (v := 63) Z dX5_firstHash_1 (by decide +kernel) ?_
  refine z_iload_n Z dX5_firstHash_3 1 rfl ?_
  refine z_ishr (v := ((63 / 2 ^ d : Nat) : Int)) Z dX5_firstHash_4 (zq_shr63 hd) ?_
  refine z_iconst (v := -1) Z dX5_firstHash_5 rfl ?_
  refine z_ixor (v := ((0 - ((63 / 2 ^ d : Nat) : Int)) - 1)) Z dX5_firstHash_6 (by rw [zq_not hd]; congr 1; omega) ?_
  refine z_iand (v := ((fhF h d : Nat) : Int)) Z dX5_firstHash_7 (by rw [show (0 - ((63 / 2 ^ d : Nat) : Int) - 1) = -((63 / 2 ^ d : Nat) : Int) - 1 from by omega]; exact zq_fh hh hd) ?_
  refine z_eqs [] _ [zi ((fhF h d : Nat) : Int)] (rfl) rfl (rfl) ?_
  exact hR _ _ () trivial dX5_firstHash_8
set_option maxHeartbeats 4000000 in
set_option maxRecDepth 100000 in
theorem zc_X5_lastHash (l : Launch) (D : va_G) (ct : zCT) (h : Nat) (d : Nat) (hh : h < 64) (hd : d < 7) : zMet l yX5_lastHash wsX5_lastHash ({ frames := 0, cells := 0, slots := 0, locals := 0 } : Room) D ct [zi ((h : Nat) : Int), zi ((d : Nat) : Int)] [] (fun _ : Unit => True) (fun _ => some (zi (((lhF h d : Nat) : Int)))) (fun _ => []) 0 0 := by
  refine zMet_i (cc := cX5_lastHash) (maxL := 2) (r := fun _ => ((lhF h d : Nat) : Int)) (by decide) rfl (Nat.le_of_ble_eq_true rfl) ?_
  intro p e s m below meth c A Q Z hnm hR
  refine z_eqs _ [(0, zi ((h : Nat) : Int)), (1, zi ((d : Nat) : Int))] _ rfl rfl rfl ?_
  refine z_iload_n Z dX5_lastHash_0 0 rfl ?_
  refine z_bipush (v := 63) Z dX5_lastHash_1 (by decide +kernel) ?_
  refine z_iload_n Z dX5_lastHash_3 1 rfl ?_
  refine z_ishr (v := ((63 / 2 ^ d : Nat) : Int)) Z dX5_lastHash_4 (zq_shr63 hd) ?_
  refine z_ior (v := ((lhF h d : Nat) : Int)) Z dX5_lastHash_5 (zq_lh hh hd) ?_
  refine z_eqs [] _ [zi ((lhF h d : Nat) : Int)] (rfl) rfl (rfl) ?_
  exact hR _ _ () trivial dX5_lastHash_6
set_option maxHeartbeats 4000000 in
set_option maxRecDepth 100000 in
theorem zc_X5_siblingHash (l : Launch) (D : va_G) (ct : zCT) (h : Nat) (d : Nat) (hh : h < 64) (hd : d < 7) (h1 : 0 < d) : zMet l yX5_siblingHash wsX5_siblingHash ({ frames := 0, cells := 0, slots := 0, locals := 0 } : Room) D ct [zi ((h : Nat) : Int), zi ((d : Nat) : Int)] [] (fun _ : Unit => True) (fun _ => some (zi (((sbF h d : Nat) : Int)))) (fun _ => []) 0 0 := by
  refine zMet_i (cc := cX5_siblingHash) (maxL := 2) (r := fun _ => ((sbF h d : Nat) : Int)) (by decide) rfl (Nat.le_of_ble_eq_true rfl) ?_
  intro p e s m below meth c A Q Z hnm hR
  refine z_eqs _ [(0, zi ((h : Nat) : Int)), (1, zi ((d : Nat) : Int))] _ rfl rfl rfl ?_
  refine z_iload_n Z dX5_siblingHash_0 0 rfl ?_
  refine z_bipush (v := 64) Z dX5_siblingHash_1 (by decide +kernel) ?_
  refine z_iload_n Z dX5_siblingHash_3 1 rfl ?_
  refine z_ishr (v := ((64 / 2 ^ d : Nat) : Int)) Z dX5_siblingHash_4 (zq_shr64 hd) ?_
  refine z_ixor (v := ((sbF h d : Nat) : Int)) Z dX5_siblingHash_5 (zq_sb hh hd h1) ?_
  refine z_eqs [] _ [zi ((sbF h d : Nat) : Int)] (rfl) rfl (rfl) ?_
  exact hR _ _ () trivial dX5_siblingHash_6
set_option maxHeartbeats 4000000 in
set_option maxRecDepth 100000 in
theorem zc_X2_shiftOf (l : Launch) (D : va_G) (ct : zCT) (i : Nat) (hi : i < 6) : zMet l yX2_shiftOf wsX2_shiftOf ({ frames := 0, cells := 0, slots := 0, locals := 0 } : Room) D ct [zi ((i : Nat) : Int)] [] (fun _ : Unit => True) (fun _ => some (zi (((25 - 5 * i : Nat) : Int)))) (fun _ => []) 0 0 := by
  refine zMet_i (cc := cX2_shiftOf) (maxL := 1) (r := fun _ => ((25 - 5 * i : Nat) : Int)) (by decide) rfl (Nat.le_of_ble_eq_true rfl) ?_
  intro p e s m below meth c A Q Z hnm hR
  refine z_eqs _ [(0, zi ((i : Nat) : Int))] _ rfl rfl rfl ?_
  refine z_iconst (v := 5) Z dX2_shiftOf_0 rfl ?_
  refine z_iconst (v := 5) Z dX2_shiftOf_1 rfl ?_
  refine z_iload_n Z dX2_shiftOf_2 0 rfl ?_
  refine z_isub Z dX2_shiftOf_3 ?_
  refine z_imul Z dX2_shiftOf_4 ?_
  refine z_eqs [] _ [zi ((25 - 5 * i : Nat) : Int)] (rfl) rfl (congrArg (fun z => [zi z]) (by omega)) ?_
  exact hR _ _ () trivial dX2_shiftOf_5
set_option maxHeartbeats 4000000 in
set_option maxRecDepth 100000 in
theorem zc_X2_isLetter (l : Launch) (D : va_G) (ct : zCT) (ch : Nat) (hc : ch < 1000) : zMet l yX2_isLetter wsX2_isLetter ({ frames := 0, cells := 0, slots := 0, locals := 0 } : Room) D ct [zi ((ch : Nat) : Int)] [] (fun _ : Unit => True) (fun _ => some (zi (zb (decide (97 ≤ ch ∧ ch ≤ 122))))) (fun _ => []) 0 0 := by
  refine zMet_z (cc := cX2_isLetter) (maxL := 1) (r := fun _ => zb (decide (97 ≤ ch ∧ ch ≤ 122))) (by decide) rfl (Nat.le_of_ble_eq_true rfl) (fun _ _ => zb_n _) ?_
  intro p e s m below meth c A Q Z hnm hR
  refine z_eqs _ [(0, zi ((ch : Nat) : Int))] _ rfl rfl rfl ?_
  refine z_iload_n Z dX2_isLetter_0 0 rfl ?_
  refine z_bipush (v := 97) Z dX2_isLetter_1 (by decide +kernel) ?_
  refine z_icmp_lt Z 16 dX2_isLetter_3 (by decide) (by omega) (by omega) (fun h3 => ?_) (fun h3 => ?_)
  · refine z_iconst (v := 0) Z dX2_isLetter_16 rfl ?_
    refine z_eqs [] _ [zi (zb (decide (97 ≤ ch ∧ ch ≤ 122)))] (rfl) rfl (congrArg (fun z => [zi z]) (zb_np _ (by omega))) ?_
    exact hR _ _ () trivial dX2_isLetter_17
  · refine z_iload_n Z dX2_isLetter_6 0 rfl ?_
    refine z_bipush (v := 122) Z dX2_isLetter_7 (by decide +kernel) ?_
    refine z_icmp_gt Z 16 dX2_isLetter_9 (by decide) (by omega) (by omega) (fun h9 => ?_) (fun h9 => ?_)
    · refine z_iconst (v := 0) Z dX2_isLetter_16 rfl ?_
      refine z_eqs [] _ [zi (zb (decide (97 ≤ ch ∧ ch ≤ 122)))] (rfl) rfl (congrArg (fun z => [zi z]) (zb_np _ (by omega))) ?_
      exact hR _ _ () trivial dX2_isLetter_17
    · refine z_iconst (v := 1) Z dX2_isLetter_12 rfl ?_
      refine z_goto Z 17 dX2_isLetter_13 (by decide) ?_
      refine z_eqs [] _ [zi (zb (decide (97 ≤ ch ∧ ch ≤ 122)))] (rfl) rfl (congrArg (fun z => [zi z]) (zb_p _ (by omega))) ?_
      exact hR _ _ () trivial dX2_isLetter_17
set_option maxHeartbeats 4000000 in
set_option maxRecDepth 100000 in
theorem zc_X2_letterNumber (l : Launch) (D : va_G) (ct : zCT) (nm : Nat) (i : Nat) (hn : nm < 1073741824) (hi : i < 2147483648) : zMet l yX2_letterNumber wsX2_letterNumber ({ frames := 1, cells := 0, slots := 0, locals := 20 } : Room) D ct [zi ((nm : Nat) : Int), zi ((i : Nat) : Int)] [] (fun _ : Unit => True) (fun _ => some (zi (((ltF nm i : Nat) : Int)))) (fun _ => []) 0 0 := by
  refine zMet_i (cc := cX2_letterNumber) (maxL := 2) (r := fun _ => ((ltF nm i : Nat) : Int)) (by decide) rfl (Nat.le_of_ble_eq_true rfl) ?_
  intro p e s m below meth c A Q Z hnm hR
  refine z_eqs _ [(0, zi ((nm : Nat) : Int)), (1, zi ((i : Nat) : Int))] _ rfl rfl rfl ?_
  refine z_iload_n Z dX2_letterNumber_0 1 rfl ?_
  refine z_bipush (v := 6) Z dX2_letterNumber_1 (by decide +kernel) ?_
  refine z_icmp_ge Z 18 dX2_letterNumber_3 (by decide) (by omega) (by omega) (fun h3 => ?_) (fun h3 => ?_)
  · refine z_iconst (v := 0) Z dX2_letterNumber_18 rfl ?_
    refine z_eqs [] _ [zi ((ltF nm i : Nat) : Int)] (rfl) rfl (congrArg (fun z => [zi z]) (by unfold ltF; rw [if_neg (by omega)]; rfl)) ?_
    exact hR _ _ () trivial dX2_letterNumber_19
  · refine z_iload_n Z dX2_letterNumber_6 0 rfl ?_
    refine z_iload_n Z dX2_letterNumber_7 1 rfl ?_
    refine z_callSu (rest := [zi ((nm : Nat) : Int)]) Z dX2_letterNumber_8 (zc_X2_shiftOf l D ct (i) (by first | assumption | omega)) (va_cwS 1 Z.1.2.2.2.2 gX2_letterNumber_X2_shiftOf rfl rfl rfl (by decide +kernel) ⟨Nat.le_of_ble_eq_true rfl, Nat.le_of_ble_eq_true rfl⟩) rfl (Nat.le_of_ble_eq_true rfl) ⟨Nat.le_of_ble_eq_true rfl, Nat.le_of_ble_eq_true rfl⟩ [] [] [zi ((25 - 5 * i : Nat) : Int), zi ((nm : Nat) : Int)] rfl rfl rfl rfl ?_
    refine z_ishr (v := ((nm / 2 ^ (25 - 5 * i) : Nat) : Int)) Z dX2_letterNumber_11 (zq_shr (by omega) (by omega)) ?_
    refine z_bipush (v := 31) Z dX2_letterNumber_12 (by decide +kernel) ?_
    refine z_iand (v := ((nm / 2 ^ (25 - 5 * i) % 32 : Nat) : Int)) Z dX2_letterNumber_14 (zq_and31 (Nat.lt_of_le_of_lt (Nat.div_le_self _ _) (by omega))) ?_
    refine z_goto Z 19 dX2_letterNumber_15 (by decide) ?_
    refine z_eqs [] _ [zi ((ltF nm i : Nat) : Int)] (rfl) rfl (congrArg (fun z => [zi z]) (by unfold ltF; rw [if_pos (by omega)])) ?_
    exact hR _ _ () trivial dX2_letterNumber_19
set_option maxHeartbeats 4000000 in
set_option maxRecDepth 100000 in
theorem zc_X2_hash (l : Launch) (D : va_G) (ct : zCT) (nm : Nat) (hn : nm < 1073741824) : zMet l yX2_hash wsX2_hash ({ frames := 2, cells := 0, slots := 0, locals := 41 } : Room) D ct [zi ((nm : Nat) : Int)] [] (fun _ : Unit => True) (fun _ => some (zi (((hsF nm : Nat) : Int)))) (fun _ => []) 0 0 := by
  refine zMet_i (cc := cX2_hash) (maxL := 4) (r := fun _ => ((hsF nm : Nat) : Int)) (by decide) rfl (Nat.le_of_ble_eq_true rfl) ?_
  intro p e s m below meth c A Q Z hnm hR
  refine z_eqs _ [(0, zi ((nm : Nat) : Int))] _ rfl rfl rfl ?_
  refine z_bipush (v := 7) Z dX2_hash_0 (by decide +kernel) ?_
  refine z_istore_n Z dX2_hash_2 [(1, zi 7), (0, zi ((nm : Nat) : Int))] (by decide) rfl ?_
  refine z_iconst (v := 0) Z dX2_hash_3 rfl ?_
  refine z_istore_n Z dX2_hash_4 [(2, zi 0), (1, zi 7), (0, zi ((nm : Nat) : Int))] (by decide) rfl ?_
  refine z_lsub [2, 1, 0] [(0, zi ((nm : Nat) : Int)), (1, zi 7), (2, zi 0)] rfl ?_
  have LOOP5 : ∀ (N0 : Nat) (h i : Nat) (x1 : Int) (x2 : Int), 7 - i < N0 → x1 = ((h : Nat) : Int) → x2 = ((i : Nat) : Int) → (h < 64) → (i ≤ 6) → (hsR nm (6 - i) h = hsR nm 6 7) → zW p l e ({ frames := 2, cells := 0, slots := 0, locals := 41 } : Room) s m ([zi ((nm : Nat) : Int)] : List Value).toArray below meth c D A 4 Q 0 0 [] [(0, zi ((nm : Nat) : Int)), (1, zi x1), (2, zi x2)] 5 [] := by
    intro N0
    induction N0 with
    | zero => intro h i x1 x2 hm0; exact absurd hm0 (Nat.not_lt_zero _)
    | succ N0 ih0 =>
      intro h i x1 x2 hm0 ex1 ex2 hh hi he
      subst ex1
      subst ex2
      refine z_iload_n Z dX2_hash_5 2 rfl ?_
      refine z_bipush (v := 6) Z dX2_hash_6 (by decide +kernel) ?_
      refine z_icmp_ge Z 38 dX2_hash_8 (by decide) (by omega) (by omega) (fun h8 => ?_) (fun h8 => ?_)
      · refine z_iload_n Z dX2_hash_38 1 rfl ?_
        refine z_eqs [] _ [zi ((hsF nm : Nat) : Int)] (rfl) rfl (congrArg (fun z => [zi z]) (by rw [show hsF nm = h from by rw [show hsF nm = hsR nm 6 7 from rfl, ← he, show 6 - i = 0 from by omega]; rfl])) ?_
        exact hR _ _ () trivial dX2_hash_39
      · refine z_iload_n Z dX2_hash_11 0 rfl ?_
        refine z_iload_n Z dX2_hash_12 2 rfl ?_
        refine z_callSu (rest := []) Z dX2_hash_13 (zc_X2_letterNumber l D ct (nm) (i) (by first | assumption | omega) (by first | assumption | omega)) (va_cwS 2 Z.1.2.2.2.2 gX2_hash_X2_letterNumber rfl rfl rfl (by decide +kernel) ⟨Nat.le_of_ble_eq_true rfl, Nat.le_of_ble_eq_true rfl⟩) rfl (Nat.le_of_ble_eq_true rfl) ⟨Nat.le_of_ble_eq_true rfl, Nat.le_of_ble_eq_true rfl⟩ [] [] [zi ((ltF nm i : Nat) : Int)] rfl rfl rfl rfl ?_
        have hl9 := ltF_lt nm i
        refine z_istore_n Z dX2_hash_16 [(3, zi ((ltF nm i : Nat) : Int)), (0, zi ((nm : Nat) : Int)), (1, zi ((h : Nat) : Int)), (2, zi ((i : Nat) : Int))] (by decide) rfl ?_
        refine z_iload_n Z dX2_hash_17 0 rfl ?_
        refine z_if_ne Z 23 dX2_hash_18 (by decide) (by omega) (fun h18 => ?_) (fun h18 => ?_)
        · refine z_iconst (v := 5) Z dX2_hash_23 rfl ?_
          refine z_iload_n Z dX2_hash_24 2 rfl ?_
          refine z_imul Z dX2_hash_25 ?_
          refine z_top (y := ((5 * h : Nat) : Int)) (by omega) ?_
          refine z_iload_n Z dX2_hash_26 0 rfl ?_
          refine z_iadd Z dX2_hash_27 ?_
          refine z_top (y := (((5 * h) + (ltF nm i) : Nat) : Int)) (by omega) ?_
          refine z_bipush (v := 64) Z dX2_hash_28 (by decide +kernel) ?_
          refine z_irem Z dX2_hash_30 (by omega) (by omega) ?_
          refine z_top (y := ((((5 * h) + (ltF nm i)) % 64 : Nat) : Int)) (by omega) ?_
          refine z_istore_n Z dX2_hash_31 [(1, zi ((((5 * h) + (ltF nm i)) % 64 : Nat) : Int)), (3, zi ((ltF nm i : Nat) : Int)), (0, zi ((nm : Nat) : Int)), (2, zi ((i : Nat) : Int))] (by decide) rfl ?_
          refine z_iinc (v := ((i + 1 : Nat) : Int)) Z dX2_hash_32 3 [(2, zi ((i + 1 : Nat) : Int)), (1, zi ((((5 * h) + (ltF nm i)) % 64 : Nat) : Int)), (3, zi ((ltF nm i : Nat) : Int)), (0, zi ((nm : Nat) : Int))] rfl (by omega) (by decide) rfl ?_
          refine z_goto Z 5 dX2_hash_35 (by decide) ?_
          refine z_lsub [3, 1, 0] [(0, zi ((nm : Nat) : Int)), (1, zi ((((5 * h) + (ltF nm i)) % 64 : Nat) : Int)), (2, zi ((i + 1 : Nat) : Int))] rfl ?_
          exact ih0 (((5 * h) + (ltF nm i)) % 64) (i + 1) _ _ (by omega) (by first | rfl | omega) (by first | rfl | omega)  (Nat.mod_lt _ (by decide)) (by first | assumption | omega) (by rw [← hsR_next (by omega) (by omega)]; exact he)
        · refine z_iload_n Z dX2_hash_21 2 rfl ?_
          refine z_eqs [] _ [zi ((hsF nm : Nat) : Int)] (rfl) rfl (congrArg (fun z => [zi z]) (by rw [show hsF nm = h from by rw [show hsF nm = hsR nm 6 7 from rfl, ← he]; exact hsR_stop (by omega) (by omega)])) ?_
          exact hR _ _ () trivial dX2_hash_22
  exact LOOP5 (7 - 0 + 1) 7 0 _ _ (Nat.lt_succ_self _) (by first | rfl | omega) (by first | rfl | omega)  (by first | assumption | omega) (by first | assumption | omega) (rfl)
theorem zin_X0_isFull_X0 : ∀ w ∈ wsX00, w ∈ wsX0_isFull := by decide +kernel
theorem zlk_X0_isFull_18 : Cond.fieldLink RX0 18 "HashedDirectory$Entries" "count" "I" ∈ wsX0_isFull := by decide +kernel
set_option maxHeartbeats 4000000 in
set_option maxRecDepth 100000 in
theorem zc_X0_isFull (l : Launch) (D : va_G) (ct : zCT) (h0 : Nat) (aK : Nat) (aN : Nat) (keys : Nat → Nat) (names : Nat → Nat) (cnt : Nat) (hc : cnt ≤ 40) (hk : ∀ j, j < 40 → keys j < 64000) : zMet l yX0_isFull wsX0_isFull ({ frames := 0, cells := 0, slots := 0, locals := 0 } : Room) D ct [.ref h0] [zO h0 0 [.ref aK, .ref aN, zi ((cnt : Nat) : Int)], zAI ct aK 40 (zN keys), zAI ct aN 40 (zN names)] (fun _ : Unit => True) (fun _ => some (zi (zb (decide (40 ≤ cnt))))) (fun _ => [zO h0 0 [.ref aK, .ref aN, zi ((cnt : Nat) : Int)], zAI ct aK 40 (zN keys), zAI ct aN 40 (zN names)]) 0 0 := by
  refine zMet_z (cc := cX0_isFull) (maxL := 1) (r := fun _ => zb (decide (40 ≤ cnt))) (by decide) rfl (Nat.le_of_ble_eq_true rfl) (fun _ _ => zb_n _) ?_
  intro p e s m below meth c A Q Z hnm hR
  refine z_eqs _ [(0, .ref h0)] _ rfl rfl rfl ?_
  refine z_aload_n Z dX0_isFull_0 0 rfl ?_
  refine z_get Z dX0_isFull_1 zin_X0_isFull_X0 0 2 rfl rfl (by decide) zlk_X0_isFull_18 rfl ?_
  refine z_bipush (v := 40) Z dX0_isFull_4 (by decide +kernel) ?_
  refine z_icmp_lt Z 13 dX0_isFull_6 (by decide) (by omega) (by omega) (fun h6 => ?_) (fun h6 => ?_)
  · refine z_iconst (v := 0) Z dX0_isFull_13 rfl ?_
    refine z_eqs [zO h0 0 [.ref aK, .ref aN, zi ((cnt : Nat) : Int)], zAI ct aK 40 (zN keys), zAI ct aN 40 (zN names)] _ [zi (zb (decide (40 ≤ cnt)))] (rfl) rfl (congrArg (fun z => [zi z]) (zb_np _ (by omega))) ?_
    exact hR _ _ () trivial dX0_isFull_14
  · refine z_iconst (v := 1) Z dX0_isFull_9 rfl ?_
    refine z_goto Z 14 dX0_isFull_10 (by decide) ?_
    refine z_eqs [zO h0 0 [.ref aK, .ref aN, zi ((cnt : Nat) : Int)], zAI ct aK 40 (zN keys), zAI ct aN 40 (zN names)] _ [zi (zb (decide (40 ≤ cnt)))] (rfl) rfl (congrArg (fun z => [zi z]) (zb_p _ (by omega))) ?_
    exact hR _ _ () trivial dX0_isFull_14
theorem zin_X0_idIn_X0 : ∀ w ∈ wsX00, w ∈ wsX0_idIn := by decide +kernel
theorem zlk_X0_idIn_9 : Cond.fieldLink RX0 9 "HashedDirectory$Entries" "keys" "[I" ∈ wsX0_idIn := by decide +kernel
set_option maxHeartbeats 4000000 in
set_option maxRecDepth 100000 in
theorem zc_X0_idIn (l : Launch) (D : va_G) (ct : zCT) (h0 : Nat) (aK : Nat) (aN : Nat) (keys : Nat → Nat) (names : Nat → Nat) (cnt : Nat) (i : Nat) (hc : cnt ≤ 40) (hk : ∀ j, j < 40 → keys j < 64000) (hi : i < 40) : zMet l yX0_idIn wsX0_idIn ({ frames := 0, cells := 0, slots := 0, locals := 0 } : Room) D ct [.ref h0, zi ((i : Nat) : Int)] [zO h0 0 [.ref aK, .ref aN, zi ((cnt : Nat) : Int)], zAI ct aK 40 (zN keys), zAI ct aN 40 (zN names)] (fun _ : Unit => True) (fun _ => some (zi (((keys i % 1000 : Nat) : Int)))) (fun _ => [zO h0 0 [.ref aK, .ref aN, zi ((cnt : Nat) : Int)], zAI ct aK 40 (zN keys), zAI ct aN 40 (zN names)]) 0 0 := by
  refine zMet_i (cc := cX0_idIn) (maxL := 2) (r := fun _ => ((keys i % 1000 : Nat) : Int)) (by decide) rfl (Nat.le_of_ble_eq_true rfl) ?_
  intro p e s m below meth c A Q Z hnm hR
  refine z_eqs _ [(0, .ref h0), (1, zi ((i : Nat) : Int))] _ rfl rfl rfl ?_
  refine z_aload_n Z dX0_idIn_0 0 rfl ?_
  refine z_get Z dX0_idIn_1 zin_X0_idIn_X0 0 0 rfl rfl (by decide) zlk_X0_idIn_9 rfl ?_
  refine z_iload_n Z dX0_idIn_4 1 rfl ?_
  refine z_ialdN Z dX0_idIn_5 1 (i) rfl (rfl) ⟨by omega, by omega⟩ ?_
  have he1 := hk (i) (by omega)
  refine z_sipush (v := 1000) Z dX0_idIn_6 (by decide +kernel) ?_
  refine z_irem Z dX0_idIn_9 (by omega) (by omega) ?_
  refine z_top (y := (((keys i) % 1000 : Nat) : Int)) (by omega) ?_
  refine z_eqs [zO h0 0 [.ref aK, .ref aN, zi ((cnt : Nat) : Int)], zAI ct aK 40 (zN keys), zAI ct aN 40 (zN names)] _ [zi ((keys i % 1000 : Nat) : Int)] (rfl) rfl (congrArg (fun z => [zi z]) (by omega)) ?_
  exact hR _ _ () trivial dX0_idIn_10
theorem zin_X0_hashIn_X0 : ∀ w ∈ wsX00, w ∈ wsX0_hashIn := by decide +kernel
theorem zlk_X0_hashIn_9 : Cond.fieldLink RX0 9 "HashedDirectory$Entries" "keys" "[I" ∈ wsX0_hashIn := by decide +kernel
set_option maxHeartbeats 4000000 in
set_option maxRecDepth 100000 in
theorem zc_X0_hashIn (l : Launch) (D : va_G) (ct : zCT) (h0 : Nat) (aK : Nat) (aN : Nat) (keys : Nat → Nat) (names : Nat → Nat) (cnt : Nat) (i : Nat) (hc : cnt ≤ 40) (hk : ∀ j, j < 40 → keys j < 64000) (hi : i < 40) : zMet l yX0_hashIn wsX0_hashIn ({ frames := 0, cells := 0, slots := 0, locals := 0 } : Room) D ct [.ref h0, zi ((i : Nat) : Int)] [zO h0 0 [.ref aK, .ref aN, zi ((cnt : Nat) : Int)], zAI ct aK 40 (zN keys), zAI ct aN 40 (zN names)] (fun _ : Unit => True) (fun _ => some (zi (((keys i / 1000 : Nat) : Int)))) (fun _ => [zO h0 0 [.ref aK, .ref aN, zi ((cnt : Nat) : Int)], zAI ct aK 40 (zN keys), zAI ct aN 40 (zN names)]) 0 0 := by
  refine zMet_i (cc := cX0_hashIn) (maxL := 2) (r := fun _ => ((keys i / 1000 : Nat) : Int)) (by decide) rfl (Nat.le_of_ble_eq_true rfl) ?_
  intro p e s m below meth c A Q Z hnm hR
  refine z_eqs _ [(0, .ref h0), (1, zi ((i : Nat) : Int))] _ rfl rfl rfl ?_
  refine z_aload_n Z dX0_hashIn_0 0 rfl ?_
  refine z_get Z dX0_hashIn_1 zin_X0_hashIn_X0 0 0 rfl rfl (by decide) zlk_X0_hashIn_9 rfl ?_
  refine z_iload_n Z dX0_hashIn_4 1 rfl ?_
  refine z_ialdN Z dX0_hashIn_5 1 (i) rfl (rfl) ⟨by omega, by omega⟩ ?_
  have he1 := hk (i) (by omega)
  refine z_sipush (v := 1000) Z dX0_hashIn_6 (by decide +kernel) ?_
  refine z_idiv Z dX0_hashIn_9 (by omega) (by omega) ?_
  refine z_top (y := (((keys i) / 1000 : Nat) : Int)) (by omega) ?_
  refine z_eqs [zO h0 0 [.ref aK, .ref aN, zi ((cnt : Nat) : Int)], zAI ct aK 40 (zN keys), zAI ct aN 40 (zN names)] _ [zi ((keys i / 1000 : Nat) : Int)] (rfl) rfl (congrArg (fun z => [zi z]) (by omega)) ?_
  exact hR _ _ () trivial dX0_hashIn_10
theorem zin_X0_placeOfId_X0 : ∀ w ∈ wsX00, w ∈ wsX0_placeOfId := by decide +kernel
theorem zlk_X0_placeOfId_18 : Cond.fieldLink RX0 18 "HashedDirectory$Entries" "count" "I" ∈ wsX0_placeOfId := by decide +kernel
set_option maxHeartbeats 4000000 in
set_option maxRecDepth 100000 in
theorem zc_X0_placeOfId (l : Launch) (D : va_G) (ct : zCT) (h0 : Nat) (aK : Nat) (aN : Nat) (keys : Nat → Nat) (names : Nat → Nat) (cnt : Nat) (id : Int) (hc : cnt ≤ 40) (hk : ∀ j, j < 40 → keys j < 64000) (hid : -2147483648 ≤ id ∧ id < 2147483648) : zMet l yX0_placeOfId wsX0_placeOfId ({ frames := 1, cells := 0, slots := 0, locals := 21 } : Room) D ct [.ref h0, zi id] [zO h0 0 [.ref aK, .ref aN, zi ((cnt : Nat) : Int)], zAI ct aK 40 (zN keys), zAI ct aN 40 (zN names)] (fun _ : Unit => True) (fun _ => some (zi ((foF (idP keys id) cnt)))) (fun _ => [zO h0 0 [.ref aK, .ref aN, zi ((cnt : Nat) : Int)], zAI ct aK 40 (zN keys), zAI ct aN 40 (zN names)]) 0 0 := by
  refine zMet_i (cc := cX0_placeOfId) (maxL := 3) (r := fun _ => (foF (idP keys id) cnt)) (by decide) rfl (Nat.le_of_ble_eq_true rfl) ?_
  intro p e s m below meth c A Q Z hnm hR
  refine z_eqs _ [(0, .ref h0), (1, zi id)] _ rfl rfl rfl ?_
  refine z_iconst (v := 0) Z dX0_placeOfId_0 rfl ?_
  refine z_istore_n Z dX0_placeOfId_1 [(2, zi 0), (0, .ref h0), (1, zi id)] (by decide) rfl ?_
  refine z_lsub [1, 2, 0] [(0, .ref h0), (1, zi id), (2, zi 0)] rfl ?_
  have LOOP2 : ∀ (N0 : Nat) (i : Nat) (x2 : Int), cnt + 1 - i < N0 → x2 = ((i : Nat) : Int) → (i ≤ cnt) → (∀ j, j < i → idP keys id j = false) → zW p l e ({ frames := 1, cells := 0, slots := 0, locals := 21 } : Room) s m ([.ref h0, zi id] : List Value).toArray below meth c D A 3 Q 0 0 [zO h0 0 [.ref aK, .ref aN, zi ((cnt : Nat) : Int)], zAI ct aK 40 (zN keys), zAI ct aN 40 (zN names)] [(0, .ref h0), (1, zi id), (2, zi x2)] 2 [] := by
    intro N0
    induction N0 with
    | zero => intro i x2 hm0; exact absurd hm0 (Nat.not_lt_zero _)
    | succ N0 ih0 =>
      intro i x2 hm0 ex2 hi hj
      subst ex2
      refine z_iload_n Z dX0_placeOfId_2 2 rfl ?_
      refine z_aload_n Z dX0_placeOfId_3 0 rfl ?_
      refine z_get Z dX0_placeOfId_4 zin_X0_placeOfId_X0 0 2 rfl rfl (by decide) zlk_X0_placeOfId_18 rfl ?_
      refine z_icmp_ge Z 27 dX0_placeOfId_7 (by decide) (by omega) (by omega) (fun h7 => ?_) (fun h7 => ?_)
      · refine z_iconst (v := -1) Z dX0_placeOfId_27 rfl ?_
        refine z_eqs [zO h0 0 [.ref aK, .ref aN, zi ((cnt : Nat) : Int)], zAI ct aK 40 (zN keys), zAI ct aN 40 (zN names)] _ [zi (foF (idP keys id) cnt)] (rfl) rfl (congrArg (fun z => [zi z]) (foF_no (fun j h9 => hj j (by omega)))) ?_
        exact hR _ _ () trivial dX0_placeOfId_28
      · refine z_aload_n Z dX0_placeOfId_10 0 rfl ?_
        refine z_iload_n Z dX0_placeOfId_11 2 rfl ?_
        refine z_callVu (rest := []) Z dX0_placeOfId_12 0 0 _ _ rfl rfl rfl (zc_X0_idIn l D ct (h0) (aK) (aN) (keys) (names) (cnt) (i) (by first | assumption | omega) (by first | assumption | omega) (by first | assumption | omega)) (cwV 1 Z.1.2.2.2.2 gX0_placeOfId_X0_idIn rfl rfl rfl (by decide +kernel) ⟨Nat.le_of_ble_eq_true rfl, Nat.le_of_ble_eq_true rfl⟩) rfl (Nat.le_of_ble_eq_true rfl) ⟨Nat.le_of_ble_eq_true rfl, Nat.le_of_ble_eq_true rfl⟩ [true, true, true] [zO h0 0 [.ref aK, .ref aN, zi ((cnt : Nat) : Int)], zAI ct aK 40 (zN keys), zAI ct aN 40 (zN names)] [zi ((keys i % 1000 : Nat) : Int)] rfl rfl rfl rfl ?_
        refine z_iload_n Z dX0_placeOfId_15 1 rfl ?_
        have hb9 : keys i % 1000 < 1000 := Nat.mod_lt _ (by decide)
        refine z_icmp_ne Z 21 dX0_placeOfId_16 (by decide) (by omega) (by omega) (fun h16 => ?_) (fun h16 => ?_)
        · refine z_iinc (v := ((i + 1 : Nat) : Int)) Z dX0_placeOfId_21 2 [(2, zi ((i + 1 : Nat) : Int)), (0, .ref h0), (1, zi id)] rfl (by omega) (by decide) rfl ?_
          refine z_goto Z 2 dX0_placeOfId_24 (by decide) ?_
          refine z_lsub [1, 2, 0] [(0, .ref h0), (1, zi id), (2, zi ((i + 1 : Nat) : Int))] rfl ?_
          exact ih0 (i + 1) _ (by omega) (by first | rfl | omega)  (by first | assumption | omega) (lt_succ_all hj (decide_eq_false h16))
        · refine z_iload_n Z dX0_placeOfId_19 2 rfl ?_
          refine z_eqs [zO h0 0 [.ref aK, .ref aN, zi ((cnt : Nat) : Int)], zAI ct aK 40 (zN keys), zAI ct aN 40 (zN names)] _ [zi (foF (idP keys id) cnt)] (rfl) rfl (congrArg (fun z => [zi z]) (foF_yes (by omega) hj (decide_eq_true h16))) ?_
          exact hR _ _ () trivial dX0_placeOfId_20
  exact LOOP2 (cnt + 1 - 0 + 1) 0 _ (Nat.lt_succ_self _) (by first | rfl | omega)  (by first | assumption | omega) (fun j hj => absurd hj (Nat.not_lt_zero j))
theorem zin_X0_placeOfName_X0 : ∀ w ∈ wsX00, w ∈ wsX0_placeOfName := by decide +kernel
theorem zlk_X0_placeOfName_18 : Cond.fieldLink RX0 18 "HashedDirectory$Entries" "count" "I" ∈ wsX0_placeOfName := by decide +kernel
theorem zlk_X0_placeOfName_15 : Cond.fieldLink RX0 15 "HashedDirectory$Entries" "names" "[I" ∈ wsX0_placeOfName := by decide +kernel
set_option maxHeartbeats 4000000 in
set_option maxRecDepth 100000 in
theorem zc_X0_placeOfName (l : Launch) (D : va_G) (ct : zCT) (h0 : Nat) (aK : Nat) (aN : Nat) (keys : Nat → Nat) (names : Nat → Nat) (cnt : Nat) (name : Nat) (hc : cnt ≤ 40) (hk : ∀ j, j < 40 → keys j < 64000) (hn : ∀ j, j < 40 → names j < 1073741824) (hm : name < 1073741824) : zMet l yX0_placeOfName wsX0_placeOfName ({ frames := 0, cells := 0, slots := 0, locals := 0 } : Room) D ct [.ref h0, zi ((name : Nat) : Int)] [zO h0 0 [.ref aK, .ref aN, zi ((cnt : Nat) : Int)], zAI ct aK 40 (zN keys), zAI ct aN 40 (zN names)] (fun _ : Unit => True) (fun _ => some (zi ((foF (nmP names name) cnt)))) (fun _ => [zO h0 0 [.ref aK, .ref aN, zi ((cnt : Nat) : Int)], zAI ct aK 40 (zN keys), zAI ct aN 40 (zN names)]) 0 0 := by
  refine zMet_i (cc := cX0_placeOfName) (maxL := 3) (r := fun _ => (foF (nmP names name) cnt)) (by decide) rfl (Nat.le_of_ble_eq_true rfl) ?_
  intro p e s m below meth c A Q Z hnm hR
  refine z_eqs _ [(0, .ref h0), (1, zi ((name : Nat) : Int))] _ rfl rfl rfl ?_
  refine z_iconst (v := 0) Z dX0_placeOfName_0 rfl ?_
  refine z_istore_n Z dX0_placeOfName_1 [(2, zi 0), (0, .ref h0), (1, zi ((name : Nat) : Int))] (by decide) rfl ?_
  refine z_lsub [1, 2, 0] [(0, .ref h0), (1, zi ((name : Nat) : Int)), (2, zi 0)] rfl ?_
  have LOOP2 : ∀ (N0 : Nat) (i : Nat) (x2 : Int), cnt + 1 - i < N0 → x2 = ((i : Nat) : Int) → (i ≤ cnt) → (∀ j, j < i → nmP names name j = false) → zW p l e ({ frames := 0, cells := 0, slots := 0, locals := 0 } : Room) s m ([.ref h0, zi ((name : Nat) : Int)] : List Value).toArray below meth c D A 3 Q 0 0 [zO h0 0 [.ref aK, .ref aN, zi ((cnt : Nat) : Int)], zAI ct aK 40 (zN keys), zAI ct aN 40 (zN names)] [(0, .ref h0), (1, zi ((name : Nat) : Int)), (2, zi x2)] 2 [] := by
    intro N0
    induction N0 with
    | zero => intro i x2 hm0; exact absurd hm0 (Nat.not_lt_zero _)
    | succ N0 ih0 =>
      intro i x2 hm0 ex2 hi hj
      subst ex2
      refine z_iload_n Z dX0_placeOfName_2 2 rfl ?_
      refine z_aload_n Z dX0_placeOfName_3 0 rfl ?_
      refine z_get Z dX0_placeOfName_4 zin_X0_placeOfName_X0 0 2 rfl rfl (by decide) zlk_X0_placeOfName_18 rfl ?_
      refine z_icmp_ge Z 28 dX0_placeOfName_7 (by decide) (by omega) (by omega) (fun h7 => ?_) (fun h7 => ?_)
      · refine z_iconst (v := -1) Z dX0_placeOfName_28 rfl ?_
        refine z_eqs [zO h0 0 [.ref aK, .ref aN, zi ((cnt : Nat) : Int)], zAI ct aK 40 (zN keys), zAI ct aN 40 (zN names)] _ [zi (foF (nmP names name) cnt)] (rfl) rfl (congrArg (fun z => [zi z]) (foF_no (fun j h9 => hj j (by omega)))) ?_
        exact hR _ _ () trivial dX0_placeOfName_29
      · refine z_aload_n Z dX0_placeOfName_10 0 rfl ?_
        refine z_get Z dX0_placeOfName_11 zin_X0_placeOfName_X0 0 1 rfl rfl (by decide) zlk_X0_placeOfName_15 rfl ?_
        refine z_iload_n Z dX0_placeOfName_14 2 rfl ?_
        refine z_ialdN Z dX0_placeOfName_15 2 (i) rfl (rfl) ⟨by omega, by omega⟩ ?_
        have he1 := hn (i) (by omega)
        refine z_iload_n Z dX0_placeOfName_16 1 rfl ?_
        refine z_icmp_ne Z 22 dX0_placeOfName_17 (by decide) (by omega) (by omega) (fun h17 => ?_) (fun h17 => ?_)
        · refine z_iinc (v := ((i + 1 : Nat) : Int)) Z dX0_placeOfName_22 2 [(2, zi ((i + 1 : Nat) : Int)), (0, .ref h0), (1, zi ((name : Nat) : Int))] rfl (by omega) (by decide) rfl ?_
          refine z_goto Z 2 dX0_placeOfName_25 (by decide) ?_
          refine z_lsub [1, 2, 0] [(0, .ref h0), (1, zi ((name : Nat) : Int)), (2, zi ((i + 1 : Nat) : Int))] rfl ?_
          exact ih0 (i + 1) _ (by omega) (by first | rfl | omega)  (by first | assumption | omega) (lt_succ_all hj (decide_eq_false (by omega)))
        · refine z_iload_n Z dX0_placeOfName_20 2 rfl ?_
          refine z_eqs [zO h0 0 [.ref aK, .ref aN, zi ((cnt : Nat) : Int)], zAI ct aK 40 (zN keys), zAI ct aN 40 (zN names)] _ [zi (foF (nmP names name) cnt)] (rfl) rfl (congrArg (fun z => [zi z]) (foF_yes (by omega) hj (decide_eq_true (by omega)))) ?_
          exact hR _ _ () trivial dX0_placeOfName_21
  exact LOOP2 (cnt + 1 - 0 + 1) 0 _ (Nat.lt_succ_self _) (by first | rfl | omega)  (by first | assumption | omega) (fun j hj => absurd hj (Nat.not_lt_zero j))
theorem zin_X0_placeAfter_X0 : ∀ w ∈ wsX00, w ∈ wsX0_placeAfter := by decide +kernel
theorem zlk_X0_placeAfter_18 : Cond.fieldLink RX0 18 "HashedDirectory$Entries" "count" "I" ∈ wsX0_placeAfter := by decide +kernel
theorem zlk_X0_placeAfter_9 : Cond.fieldLink RX0 9 "HashedDirectory$Entries" "keys" "[I" ∈ wsX0_placeAfter := by decide +kernel
set_option maxHeartbeats 4000000 in
set_option maxRecDepth 100000 in
theorem zc_X0_placeAfter (l : Launch) (D : va_G) (ct : zCT) (h0 : Nat) (aK : Nat) (aN : Nat) (keys : Nat → Nat) (names : Nat → Nat) (cnt : Nat) (key : Int) (hc : cnt ≤ 40) (hk : ∀ j, j < 40 → keys j < 64000) (hy : -2147483648 ≤ key ∧ key < 2147483648) : zMet l yX0_placeAfter wsX0_placeAfter ({ frames := 0, cells := 0, slots := 0, locals := 0 } : Room) D ct [.ref h0, zi key] [zO h0 0 [.ref aK, .ref aN, zi ((cnt : Nat) : Int)], zAI ct aK 40 (zN keys), zAI ct aN 40 (zN names)] (fun _ : Unit => True) (fun _ => some (zi (((paF keys cnt key : Nat) : Int)))) (fun _ => [zO h0 0 [.ref aK, .ref aN, zi ((cnt : Nat) : Int)], zAI ct aK 40 (zN keys), zAI ct aN 40 (zN names)]) 0 0 := by
  refine zMet_i (cc := cX0_placeAfter) (maxL := 3) (r := fun _ => ((paF keys cnt key : Nat) : Int)) (by decide) rfl (Nat.le_of_ble_eq_true rfl) ?_
  intro p e s m below meth c A Q Z hnm hR
  refine z_eqs _ [(0, .ref h0), (1, zi key)] _ rfl rfl rfl ?_
  refine z_iconst (v := 0) Z dX0_placeAfter_0 rfl ?_
  refine z_istore_n Z dX0_placeAfter_1 [(2, zi 0), (0, .ref h0), (1, zi key)] (by decide) rfl ?_
  refine z_lsub [1, 2, 0] [(0, .ref h0), (1, zi key), (2, zi 0)] rfl ?_
  have LOOP2 : ∀ (N0 : Nat) (i : Nat) (x2 : Int), cnt + 1 - i < N0 → x2 = ((i : Nat) : Int) → (i ≤ cnt) → (∀ j, j < i → ((keys j : Nat) : Int) ≤ key) → zW p l e ({ frames := 0, cells := 0, slots := 0, locals := 0 } : Room) s m ([.ref h0, zi key] : List Value).toArray below meth c D A 3 Q 0 0 [zO h0 0 [.ref aK, .ref aN, zi ((cnt : Nat) : Int)], zAI ct aK 40 (zN keys), zAI ct aN 40 (zN names)] [(0, .ref h0), (1, zi key), (2, zi x2)] 2 [] := by
    intro N0
    induction N0 with
    | zero => intro i x2 hm0; exact absurd hm0 (Nat.not_lt_zero _)
    | succ N0 ih0 =>
      intro i x2 hm0 ex2 hi hj
      subst ex2
      refine z_iload_n Z dX0_placeAfter_2 2 rfl ?_
      refine z_aload_n Z dX0_placeAfter_3 0 rfl ?_
      refine z_get Z dX0_placeAfter_4 zin_X0_placeAfter_X0 0 2 rfl rfl (by decide) zlk_X0_placeAfter_18 rfl ?_
      refine z_icmp_ge Z 26 dX0_placeAfter_7 (by decide) (by omega) (by omega) (fun h7 => ?_) (fun h7 => ?_)
      · refine z_iload_n Z dX0_placeAfter_26 2 rfl ?_
        refine z_eqs [zO h0 0 [.ref aK, .ref aN, zi ((cnt : Nat) : Int)], zAI ct aK 40 (zN keys), zAI ct aN 40 (zN names)] _ [zi ((paF keys cnt key : Nat) : Int)] (rfl) rfl (congrArg (fun z => [zi z]) (by rw [← paF_eq hi hj (fun h9 => by omega)])) ?_
        exact hR _ _ () trivial dX0_placeAfter_27
      · refine z_aload_n Z dX0_placeAfter_10 0 rfl ?_
        refine z_get Z dX0_placeAfter_11 zin_X0_placeAfter_X0 0 0 rfl rfl (by decide) zlk_X0_placeAfter_9 rfl ?_
        refine z_iload_n Z dX0_placeAfter_14 2 rfl ?_
        refine z_ialdN Z dX0_placeAfter_15 1 (i) rfl (rfl) ⟨by omega, by omega⟩ ?_
        have he1 := hk (i) (by omega)
        refine z_iload_n Z dX0_placeAfter_16 1 rfl ?_
        refine z_icmp_gt Z 26 dX0_placeAfter_17 (by decide) (by omega) (by omega) (fun h17 => ?_) (fun h17 => ?_)
        · refine z_iload_n Z dX0_placeAfter_26 2 rfl ?_
          refine z_eqs [zO h0 0 [.ref aK, .ref aN, zi ((cnt : Nat) : Int)], zAI ct aK 40 (zN keys), zAI ct aN 40 (zN names)] _ [zi ((paF keys cnt key : Nat) : Int)] (rfl) rfl (congrArg (fun z => [zi z]) (by rw [← paF_eq hi hj (fun h9 => by omega)])) ?_
          exact hR _ _ () trivial dX0_placeAfter_27
        · refine z_iinc (v := ((i + 1 : Nat) : Int)) Z dX0_placeAfter_20 2 [(2, zi ((i + 1 : Nat) : Int)), (0, .ref h0), (1, zi key)] rfl (by omega) (by decide) rfl ?_
          refine z_goto Z 2 dX0_placeAfter_23 (by decide) ?_
          refine z_lsub [1, 2, 0] [(0, .ref h0), (1, zi key), (2, zi ((i + 1 : Nat) : Int))] rfl ?_
          exact ih0 (i + 1) _ (by omega) (by first | rfl | omega)  (by first | assumption | omega) (lt_succ_all hj h17)
  exact LOOP2 (cnt + 1 - 0 + 1) 0 _ (Nat.lt_succ_self _) (by first | rfl | omega)  (by first | assumption | omega) (fun j hj => absurd hj (Nat.not_lt_zero j))
set_option maxHeartbeats 4000000 in
set_option maxRecDepth 100000 in
theorem zc_X0_countInBranch (l : Launch) (D : va_G) (ct : zCT) (h0 : Nat) (aK : Nat) (aN : Nat) (keys : Nat → Nat) (names : Nat → Nat) (cnt : Nat) (h : Nat) (d : Nat) (hc : cnt ≤ 40) (hk : ∀ j, j < 40 → keys j < 64000) (hh : h < 64) (hd : d < 7) : zMet l yX0_countInBranch wsX0_countInBranch ({ frames := 1, cells := 0, slots := 0, locals := 22 } : Room) D ct [.ref h0, zi ((h : Nat) : Int), zi ((d : Nat) : Int)] [zO h0 0 [.ref aK, .ref aN, zi ((cnt : Nat) : Int)], zAI ct aK 40 (zN keys), zAI ct aN 40 (zN names)] (fun _ : Unit => True) (fun _ => some (zi (((cbF keys cnt h d : Nat) : Int)))) (fun _ => [zO h0 0 [.ref aK, .ref aN, zi ((cnt : Nat) : Int)], zAI ct aK 40 (zN keys), zAI ct aN 40 (zN names)]) 0 0 := by
  refine zMet_i (cc := cX0_countInBranch) (maxL := 5) (r := fun _ => ((cbF keys cnt h d : Nat) : Int)) (by decide) rfl (Nat.le_of_ble_eq_true rfl) ?_
  intro p e s m below meth c A Q Z hnm hR
  refine z_eqs _ [(0, .ref h0), (1, zi ((h : Nat) : Int)), (2, zi ((d : Nat) : Int))] _ rfl rfl rfl ?_
  have hf9 := fh_le hh hd
  have hm9 := paF_mono keys cnt (show ((fhF h d * 1000 : Nat) : Int) - 1 ≤ ((lhF h d * 1000 + 999 : Nat) : Int) from by omega)
  refine z_iload_n Z dX0_countInBranch_0 1 rfl ?_
  refine z_iload_n Z dX0_countInBranch_1 2 rfl ?_
  refine z_callSu (rest := []) Z dX0_countInBranch_2 (zc_X5_firstHash l D ct (h) (d) (by first | assumption | omega) (by first | assumption | omega)) (va_cwS 2 Z.1.2.2.2.2 gX0_countInBranch_X5_firstHash rfl rfl rfl (by decide +kernel) ⟨Nat.le_of_ble_eq_true rfl, Nat.le_of_ble_eq_true rfl⟩) rfl (Nat.le_of_ble_eq_true rfl) ⟨Nat.le_of_ble_eq_true rfl, Nat.le_of_ble_eq_true rfl⟩ [false, false, false] [zO h0 0 [.ref aK, .ref aN, zi ((cnt : Nat) : Int)], zAI ct aK 40 (zN keys), zAI ct aN 40 (zN names)] [zi ((fhF h d : Nat) : Int)] rfl rfl rfl rfl ?_
  refine z_sipush (v := 1000) Z dX0_countInBranch_5 (by decide +kernel) ?_
  refine z_imul Z dX0_countInBranch_8 ?_
  refine z_top (y := (((fhF h d) * 1000 : Nat) : Int)) (by omega) ?_
  refine z_iconst (v := 1) Z dX0_countInBranch_9 rfl ?_
  refine z_isub Z dX0_countInBranch_10 ?_
  refine z_top (y := (((fhF h d * 1000 : Nat) : Int) - 1)) (rfl) ?_
  refine z_istore_n Z dX0_countInBranch_11 [(3, zi (((fhF h d * 1000 : Nat) : Int) - 1)), (0, .ref h0), (1, zi ((h : Nat) : Int)), (2, zi ((d : Nat) : Int))] (by decide) rfl ?_
  refine z_iload_n Z dX0_countInBranch_12 2 rfl ?_
  refine z_iload_n Z dX0_countInBranch_13 3 rfl ?_
  refine z_callSu (rest := []) Z dX0_countInBranch_14 (zc_X5_lastHash l D ct (h) (d) (by first | assumption | omega) (by first | assumption | omega)) (va_cwS 2 Z.1.2.2.2.2 gX0_countInBranch_X5_lastHash rfl rfl rfl (by decide +kernel) ⟨Nat.le_of_ble_eq_true rfl, Nat.le_of_ble_eq_true rfl⟩) rfl (Nat.le_of_ble_eq_true rfl) ⟨Nat.le_of_ble_eq_true rfl, Nat.le_of_ble_eq_true rfl⟩ [false, false, false] [zO h0 0 [.ref aK, .ref aN, zi ((cnt : Nat) : Int)], zAI ct aK 40 (zN keys), zAI ct aN 40 (zN names)] [zi ((lhF h d : Nat) : Int)] rfl rfl rfl rfl ?_
  refine z_sipush (v := 1000) Z dX0_countInBranch_17 (by decide +kernel) ?_
  refine z_imul Z dX0_countInBranch_20 ?_
  refine z_top (y := (((lhF h d) * 1000 : Nat) : Int)) (by omega) ?_
  refine z_sipush (v := 1000) Z dX0_countInBranch_21 (by decide +kernel) ?_
  refine z_iadd Z dX0_countInBranch_24 ?_
  refine z_top (y := ((((lhF h d) * 1000) + 1000 : Nat) : Int)) (by omega) ?_
  refine z_iconst (v := 1) Z dX0_countInBranch_25 rfl ?_
  refine z_isub Z dX0_countInBranch_26 ?_
  refine z_top (y := ((lhF h d * 1000 + 999 : Nat) : Int)) (by omega) ?_
  refine z_istore Z dX0_countInBranch_27 [(4, zi ((lhF h d * 1000 + 999 : Nat) : Int)), (3, zi (((fhF h d * 1000 : Nat) : Int) - 1)), (0, .ref h0), (1, zi ((h : Nat) : Int)), (2, zi ((d : Nat) : Int))] (by decide) rfl ?_
  refine z_aload_n Z dX0_countInBranch_29 2 rfl ?_
  refine z_iload Z dX0_countInBranch_30 0 rfl ?_
  refine z_callVu (rest := []) Z dX0_countInBranch_32 0 0 _ _ rfl rfl rfl (zc_X0_placeAfter l D ct (h0) (aK) (aN) (keys) (names) (cnt) (((lhF h d * 1000 + 999 : Nat) : Int)) (by first | assumption | omega) (by first | assumption | omega) (by first | assumption | omega)) (cwV 1 Z.1.2.2.2.2 gX0_countInBranch_X0_placeAfter rfl rfl rfl (by decide +kernel) ⟨Nat.le_of_ble_eq_true rfl, Nat.le_of_ble_eq_true rfl⟩) rfl (Nat.le_of_ble_eq_true rfl) ⟨Nat.le_of_ble_eq_true rfl, Nat.le_of_ble_eq_true rfl⟩ [true, true, true] [zO h0 0 [.ref aK, .ref aN, zi ((cnt : Nat) : Int)], zAI ct aK 40 (zN keys), zAI ct aN 40 (zN names)] [zi ((paF keys cnt ((lhF h d * 1000 + 999 : Nat) : Int) : Nat) : Int)] rfl rfl rfl rfl ?_
  refine z_aload_n Z dX0_countInBranch_35 2 rfl ?_
  refine z_iload_n Z dX0_countInBranch_36 1 rfl ?_
  refine z_callVu (rest := [zi ((paF keys cnt ((lhF h d * 1000 + 999 : Nat) : Int) : Nat) : Int)]) Z dX0_countInBranch_37 0 0 _ _ rfl rfl rfl (zc_X0_placeAfter l D ct (h0) (aK) (aN) (keys) (names) (cnt) ((((fhF h d * 1000 : Nat) : Int) - 1)) (by first | assumption | omega) (by first | assumption | omega) (by first | assumption | omega)) (cwV 1 Z.1.2.2.2.2 gX0_countInBranch_X0_placeAfter rfl rfl rfl (by decide +kernel) ⟨Nat.le_of_ble_eq_true rfl, Nat.le_of_ble_eq_true rfl⟩) rfl (Nat.le_of_ble_eq_true rfl) ⟨Nat.le_of_ble_eq_true rfl, Nat.le_of_ble_eq_true rfl⟩ [true, true, true] [zO h0 0 [.ref aK, .ref aN, zi ((cnt : Nat) : Int)], zAI ct aK 40 (zN keys), zAI ct aN 40 (zN names)] [zi ((paF keys cnt (((fhF h d * 1000 : Nat) : Int) - 1) : Nat) : Int), zi ((paF keys cnt ((lhF h d * 1000 + 999 : Nat) : Int) : Nat) : Int)] rfl rfl rfl rfl ?_
  refine z_isub Z dX0_countInBranch_40 ?_
  refine z_top (y := ((cbF keys cnt h d : Nat) : Int)) (by unfold cbF; omega) ?_
  refine z_eqs [zO h0 0 [.ref aK, .ref aN, zi ((cnt : Nat) : Int)], zAI ct aK 40 (zN keys), zAI ct aN 40 (zN names)] _ [zi ((cbF keys cnt h d : Nat) : Int)] (rfl) rfl (rfl) ?_
  exact hR _ _ () trivial dX0_countInBranch_41
theorem zin_X0_insert_X0 : ∀ w ∈ wsX00, w ∈ wsX0_insert := by decide +kernel
theorem zlk_X0_insert_18 : Cond.fieldLink RX0 18 "HashedDirectory$Entries" "count" "I" ∈ wsX0_insert := by decide +kernel
theorem zlk_X0_insert_9 : Cond.fieldLink RX0 9 "HashedDirectory$Entries" "keys" "[I" ∈ wsX0_insert := by decide +kernel
theorem zlk_X0_insert_15 : Cond.fieldLink RX0 15 "HashedDirectory$Entries" "names" "[I" ∈ wsX0_insert := by decide +kernel
set_option maxHeartbeats 4000000 in
set_option maxRecDepth 100000 in
theorem zc_X0_insert (l : Launch) (D : va_G) (ct : zCT) (h0 : Nat) (aK : Nat) (aN : Nat) (keys : Nat → Nat) (names : Nat → Nat) (cnt : Nat) (key : Nat) (name : Nat) (hc : cnt < 40) (hk : ∀ j, j < 40 → keys j < 64000) (hy : key < 64000) : zMet l yX0_insert wsX0_insert ({ frames := 1, cells := 0, slots := 0, locals := 22 } : Room) D ct [.ref h0, zi ((key : Nat) : Int), zi ((name : Nat) : Int)] [zO h0 0 [.ref aK, .ref aN, zi ((cnt : Nat) : Int)], zAI ct aK 40 (zN keys), zAI ct aN 40 (zN names)] (fun _ : Unit => True) (fun _ => none) (fun _ => [zO h0 0 [.ref aK, .ref aN, zi ((cnt + 1 : Nat) : Int)], zAI ct aK 40 (zN (inF keys (paF keys cnt ((key : Nat) : Int)) cnt key)), zAI ct aN 40 (zN (inF names (paF keys cnt ((key : Nat) : Int)) cnt name))]) 0 0 := by
  refine zMet_v (cc := cX0_insert) (maxL := 5) (by decide) rfl (Nat.le_of_ble_eq_true rfl) ?_
  intro p e s m below meth c A Q Z hnm hR
  refine z_eqs _ [(0, .ref h0), (1, zi ((key : Nat) : Int)), (2, zi ((name : Nat) : Int))] _ rfl rfl rfl ?_
  have hp9 := paF_le keys cnt ((key : Nat) : Int)
  refine z_aload_n Z dX0_insert_0 0 rfl ?_
  refine z_iload_n Z dX0_insert_1 1 rfl ?_
  refine z_callVu (rest := []) Z dX0_insert_2 0 0 _ _ rfl rfl rfl (zc_X0_placeAfter l D ct (h0) (aK) (aN) (keys) (names) (cnt) (((key : Nat) : Int)) (by first | assumption | omega) (by first | assumption | omega) (by first | assumption | omega)) (cwV 1 Z.1.2.2.2.2 gX0_insert_X0_placeAfter rfl rfl rfl (by decide +kernel) ⟨Nat.le_of_ble_eq_true rfl, Nat.le_of_ble_eq_true rfl⟩) rfl (Nat.le_of_ble_eq_true rfl) ⟨Nat.le_of_ble_eq_true rfl, Nat.le_of_ble_eq_true rfl⟩ [true, true, true] [zO h0 0 [.ref aK, .ref aN, zi ((cnt : Nat) : Int)], zAI ct aK 40 (zN keys), zAI ct aN 40 (zN names)] [zi ((paF keys cnt ((key : Nat) : Int) : Nat) : Int)] rfl rfl rfl rfl ?_
  refine z_istore_n Z dX0_insert_5 [(3, zi ((paF keys cnt ((key : Nat) : Int) : Nat) : Int)), (0, .ref h0), (1, zi ((key : Nat) : Int)), (2, zi ((name : Nat) : Int))] (by decide) rfl ?_
  refine z_aload_n Z dX0_insert_6 1 rfl ?_
  refine z_get Z dX0_insert_7 zin_X0_insert_X0 0 2 rfl rfl (by decide) zlk_X0_insert_18 rfl ?_
  refine z_istore Z dX0_insert_10 [(4, zi ((cnt : Nat) : Int)), (3, zi ((paF keys cnt ((key : Nat) : Int) : Nat) : Int)), (0, .ref h0), (1, zi ((key : Nat) : Int)), (2, zi ((name : Nat) : Int))] (by decide) rfl ?_
  refine z_lsub [2, 3, 4, 1, 0] [(0, .ref h0), (1, zi ((key : Nat) : Int)), (2, zi ((name : Nat) : Int)), (3, zi ((paF keys cnt ((key : Nat) : Int) : Nat) : Int)), (4, zi ((cnt : Nat) : Int))] rfl ?_
  have LOOP12 : ∀ (N0 : Nat) (i : Nat) (x4 : Int) (y1g : Nat → Nat) (y2g : Nat → Nat), i + 1 < N0 → x4 = ((i : Nat) : Int) → y1g = shR keys i cnt → y2g = shR names i cnt → (paF keys cnt ((key : Nat) : Int) ≤ i) → (i ≤ cnt) → zW p l e ({ frames := 1, cells := 0, slots := 0, locals := 22 } : Room) s m ([.ref h0, zi ((key : Nat) : Int), zi ((name : Nat) : Int)] : List Value).toArray below meth c D A 5 Q 0 0 [zO h0 0 [.ref aK, .ref aN, zi ((cnt : Nat) : Int)], zAI ct aK 40 (zN y1g), zAI ct aN 40 (zN y2g)] [(0, .ref h0), (1, zi ((key : Nat) : Int)), (2, zi ((name : Nat) : Int)), (3, zi ((paF keys cnt ((key : Nat) : Int) : Nat) : Int)), (4, zi x4)] 12 [] := by
    intro N0
    induction N0 with
    | zero => intro i x4 y1g y2g hm0; exact absurd hm0 (Nat.not_lt_zero _)
    | succ N0 ih0 =>
      intro i x4 y1g y2g hm0 ex4 ey1g ey2g hi hi2
      subst ex4
      subst ey1g
      subst ey2g
      refine z_iload Z dX0_insert_12 4 rfl ?_
      refine z_iload_n Z dX0_insert_14 3 rfl ?_
      refine z_icmp_le Z 56 dX0_insert_15 (by decide) (by omega) (by omega) (fun h15 => ?_) (fun h15 => ?_)
      · refine z_aload_n Z dX0_insert_56 0 rfl ?_
        refine z_get Z dX0_insert_57 zin_X0_insert_X0 0 0 rfl rfl (by decide) zlk_X0_insert_9 rfl ?_
        refine z_iload_n Z dX0_insert_60 3 rfl ?_
        refine z_iload_n Z dX0_insert_61 1 rfl ?_
        refine z_iastN Z dX0_insert_62 1 (paF keys cnt ((key : Nat) : Int)) [zO h0 0 [.ref aK, .ref aN, zi ((cnt : Nat) : Int)], zAI ct aK 40 (zN (zU (shR keys i cnt) (paF keys cnt ((key : Nat) : Int)) key)), zAI ct aN 40 (zN (shR names i cnt))] rfl (rfl) ⟨by omega, by omega⟩ rfl ?_
        refine z_aload_n Z dX0_insert_63 0 rfl ?_
        refine z_get Z dX0_insert_64 zin_X0_insert_X0 0 1 rfl rfl (by decide) zlk_X0_insert_15 rfl ?_
        refine z_iload_n Z dX0_insert_67 3 rfl ?_
        refine z_iload_n Z dX0_insert_68 2 rfl ?_
        refine z_iastN Z dX0_insert_69 2 (paF keys cnt ((key : Nat) : Int)) [zO h0 0 [.ref aK, .ref aN, zi ((cnt : Nat) : Int)], zAI ct aK 40 (zN (zU (shR keys i cnt) (paF keys cnt ((key : Nat) : Int)) key)), zAI ct aN 40 (zN (zU (shR names i cnt) (paF keys cnt ((key : Nat) : Int)) name))] rfl (rfl) ⟨by omega, by omega⟩ rfl ?_
        refine z_aload_n Z dX0_insert_70 0 rfl ?_
        refine z_dup Z dX0_insert_71 rfl ?_
        refine z_get Z dX0_insert_72 zin_X0_insert_X0 0 2 rfl rfl (by decide) zlk_X0_insert_18 rfl ?_
        refine z_iconst (v := 1) Z dX0_insert_75 rfl ?_
        refine z_iadd Z dX0_insert_76 ?_
        refine z_top (y := ((cnt + 1 : Nat) : Int)) (by omega) ?_
        refine z_put (ty := .int) Z dX0_insert_77 zin_X0_insert_X0 tyX0 tyX0_ok nmX0 0 2 [zO h0 0 [.ref aK, .ref aN, zi ((cnt + 1 : Nat) : Int)], zAI ct aK 40 (zN (zU (shR keys i cnt) (paF keys cnt ((key : Nat) : Int)) key)), zAI ct aN 40 (zN (zU (shR names i cnt) (paF keys cnt ((key : Nat) : Int)) name))] rfl rfl (by decide) zlk_X0_insert_18 rfl (by decide +kernel) rfl rfl (Nat.le_of_ble_eq_true rfl) rfl ?_
        refine z_eqs [zO h0 0 [.ref aK, .ref aN, zi ((cnt + 1 : Nat) : Int)], zAI ct aK 40 (zN (inF keys (paF keys cnt ((key : Nat) : Int)) cnt key)), zAI ct aN 40 (zN (inF names (paF keys cnt ((key : Nat) : Int)) cnt name))] _ [] (by rw [show i = paF keys cnt ((key : Nat) : Int) from by omega]; rfl) rfl (rfl) ?_
        exact hR _ _ () trivial dX0_insert_80
      · refine z_aload_n Z dX0_insert_18 0 rfl ?_
        refine z_get Z dX0_insert_19 zin_X0_insert_X0 0 0 rfl rfl (by decide) zlk_X0_insert_9 rfl ?_
        refine z_iload Z dX0_insert_22 4 rfl ?_
        refine z_aload_n Z dX0_insert_24 0 rfl ?_
        refine z_get Z dX0_insert_25 zin_X0_insert_X0 0 0 rfl rfl (by decide) zlk_X0_insert_9 rfl ?_
        refine z_iload Z dX0_insert_28 4 rfl ?_
        refine z_iconst (v := 1) Z dX0_insert_30 rfl ?_
        refine z_isub Z dX0_insert_31 ?_
        refine z_top (y := ((i - 1 : Nat) : Int)) (by omega) ?_
        refine z_ialdN Z dX0_insert_32 1 (i - 1) rfl (rfl) ⟨by omega, by omega⟩ ?_
        refine z_iastN Z dX0_insert_33 1 (i) [zO h0 0 [.ref aK, .ref aN, zi ((cnt : Nat) : Int)], zAI ct aK 40 (zN (zU (shR keys i cnt) i ((shR keys i cnt) (i - 1)))), zAI ct aN 40 (zN (shR names i cnt))] rfl (rfl) ⟨by omega, by omega⟩ rfl ?_
        refine z_aload_n Z dX0_insert_34 0 rfl ?_
        refine z_get Z dX0_insert_35 zin_X0_insert_X0 0 1 rfl rfl (by decide) zlk_X0_insert_15 rfl ?_
        refine z_iload Z dX0_insert_38 4 rfl ?_
        refine z_aload_n Z dX0_insert_40 0 rfl ?_
        refine z_get Z dX0_insert_41 zin_X0_insert_X0 0 1 rfl rfl (by decide) zlk_X0_insert_15 rfl ?_
        refine z_iload Z dX0_insert_44 4 rfl ?_
        refine z_iconst (v := 1) Z dX0_insert_46 rfl ?_
        refine z_isub Z dX0_insert_47 ?_
        refine z_top (y := ((i - 1 : Nat) : Int)) (by omega) ?_
        refine z_ialdN Z dX0_insert_48 2 (i - 1) rfl (rfl) ⟨by omega, by omega⟩ ?_
        refine z_iastN Z dX0_insert_49 2 (i) [zO h0 0 [.ref aK, .ref aN, zi ((cnt : Nat) : Int)], zAI ct aK 40 (zN (zU (shR keys i cnt) i ((shR keys i cnt) (i - 1)))), zAI ct aN 40 (zN (zU (shR names i cnt) i ((shR names i cnt) (i - 1))))] rfl (rfl) ⟨by omega, by omega⟩ rfl ?_
        refine z_iinc (v := ((i - 1 : Nat) : Int)) Z dX0_insert_50 4 [(4, zi ((i - 1 : Nat) : Int)), (0, .ref h0), (1, zi ((key : Nat) : Int)), (2, zi ((name : Nat) : Int)), (3, zi ((paF keys cnt ((key : Nat) : Int) : Nat) : Int))] rfl (by omega) (by decide) rfl ?_
        refine z_goto Z 12 dX0_insert_53 (by decide) ?_
        refine z_lsub [1, 2, 3, 4, 0] [(0, .ref h0), (1, zi ((key : Nat) : Int)), (2, zi ((name : Nat) : Int)), (3, zi ((paF keys cnt ((key : Nat) : Int) : Nat) : Int)), (4, zi ((i - 1 : Nat) : Int))] rfl ?_
        exact ih0 (i - 1) _ _ _ (by omega) (by first | rfl | omega) (shR_s keys (by omega) hi2) (shR_s names (by omega) hi2) (by first | assumption | omega) (by first | assumption | omega)
  exact LOOP12 (cnt + 1 + 1) cnt _ _ _ (Nat.lt_succ_self _) (by first | rfl | omega) (shR_0 keys cnt) (shR_0 names cnt) (by first | assumption | omega) (by first | assumption | omega)
theorem zin_X0_takeOut_X0 : ∀ w ∈ wsX00, w ∈ wsX0_takeOut := by decide +kernel
theorem zlk_X0_takeOut_18 : Cond.fieldLink RX0 18 "HashedDirectory$Entries" "count" "I" ∈ wsX0_takeOut := by decide +kernel
theorem zlk_X0_takeOut_9 : Cond.fieldLink RX0 9 "HashedDirectory$Entries" "keys" "[I" ∈ wsX0_takeOut := by decide +kernel
theorem zlk_X0_takeOut_15 : Cond.fieldLink RX0 15 "HashedDirectory$Entries" "names" "[I" ∈ wsX0_takeOut := by decide +kernel
set_option maxHeartbeats 4000000 in
set_option maxRecDepth 100000 in
theorem zc_X0_takeOut (l : Launch) (D : va_G) (ct : zCT) (h0 : Nat) (aK : Nat) (aN : Nat) (keys : Nat → Nat) (names : Nat → Nat) (cnt : Nat) (i0 : Nat) (hc : cnt ≤ 40) (hk : ∀ j, j < 40 → keys j < 64000) (hi0 : i0 < cnt) : zMet l yX0_takeOut wsX0_takeOut ({ frames := 0, cells := 0, slots := 0, locals := 0 } : Room) D ct [.ref h0, zi ((i0 : Nat) : Int)] [zO h0 0 [.ref aK, .ref aN, zi ((cnt : Nat) : Int)], zAI ct aK 40 (zN keys), zAI ct aN 40 (zN names)] (fun _ : Unit => True) (fun _ => none) (fun _ => [zO h0 0 [.ref aK, .ref aN, zi ((cnt - 1 : Nat) : Int)], zAI ct aK 40 (zN (shL keys i0 (cnt - 1))), zAI ct aN 40 (zN (shL names i0 (cnt - 1)))]) 0 0 := by
  refine zMet_v (cc := cX0_takeOut) (maxL := 3) (by decide) rfl (Nat.le_of_ble_eq_true rfl) ?_
  intro p e s m below meth c A Q Z hnm hR
  refine z_eqs _ [(0, .ref h0), (1, zi ((i0 : Nat) : Int))] _ rfl rfl rfl ?_
  refine z_aload_n Z dX0_takeOut_0 0 rfl ?_
  refine z_dup Z dX0_takeOut_1 rfl ?_
  refine z_get Z dX0_takeOut_2 zin_X0_takeOut_X0 0 2 rfl rfl (by decide) zlk_X0_takeOut_18 rfl ?_
  refine z_iconst (v := 1) Z dX0_takeOut_5 rfl ?_
  refine z_isub Z dX0_takeOut_6 ?_
  refine z_top (y := ((cnt - 1 : Nat) : Int)) (by omega) ?_
  refine z_put (ty := .int) Z dX0_takeOut_7 zin_X0_takeOut_X0 tyX0 tyX0_ok nmX0 0 2 [zO h0 0 [.ref aK, .ref aN, zi ((cnt - 1 : Nat) : Int)], zAI ct aK 40 (zN keys), zAI ct aN 40 (zN names)] rfl rfl (by decide) zlk_X0_takeOut_18 rfl (by decide +kernel) rfl rfl (Nat.le_of_ble_eq_true rfl) rfl ?_
  refine z_iload_n Z dX0_takeOut_10 1 rfl ?_
  refine z_istore_n Z dX0_takeOut_11 [(2, zi ((i0 : Nat) : Int)), (0, .ref h0), (1, zi ((i0 : Nat) : Int))] (by decide) rfl ?_
  refine z_lsub [1, 2, 0] [(0, .ref h0), (1, zi ((i0 : Nat) : Int)), (2, zi ((i0 : Nat) : Int))] rfl ?_
  have LOOP12 : ∀ (N0 : Nat) (i : Nat) (x2 : Int) (y1g : Nat → Nat) (y2g : Nat → Nat), cnt - i < N0 → x2 = ((i : Nat) : Int) → y1g = shL keys i0 i → y2g = shL names i0 i → (i0 ≤ i) → (i ≤ cnt - 1) → zW p l e ({ frames := 0, cells := 0, slots := 0, locals := 0 } : Room) s m ([.ref h0, zi ((i0 : Nat) : Int)] : List Value).toArray below meth c D A 3 Q 0 0 [zO h0 0 [.ref aK, .ref aN, zi ((cnt - 1 : Nat) : Int)], zAI ct aK 40 (zN y1g), zAI ct aN 40 (zN y2g)] [(0, .ref h0), (1, zi ((i0 : Nat) : Int)), (2, zi x2)] 12 [] := by
    intro N0
    induction N0 with
    | zero => intro i x2 y1g y2g hm0; exact absurd hm0 (Nat.not_lt_zero _)
    | succ N0 ih0 =>
      intro i x2 y1g y2g hm0 ex2 ey1g ey2g hi hi2
      subst ex2
      subst ey1g
      subst ey2g
      refine z_iload_n Z dX0_takeOut_12 2 rfl ?_
      refine z_aload_n Z dX0_takeOut_13 0 rfl ?_
      refine z_get Z dX0_takeOut_14 zin_X0_takeOut_X0 0 2 rfl rfl (by decide) zlk_X0_takeOut_18 rfl ?_
      refine z_icmp_ge Z 54 dX0_takeOut_17 (by decide) (by omega) (by omega) (fun h17 => ?_) (fun h17 => ?_)
      · refine z_eqs [zO h0 0 [.ref aK, .ref aN, zi ((cnt - 1 : Nat) : Int)], zAI ct aK 40 (zN (shL keys i0 (cnt - 1))), zAI ct aN 40 (zN (shL names i0 (cnt - 1)))] _ [] (by rw [show i = cnt - 1 from by omega]) rfl (rfl) ?_
        exact hR _ _ () trivial dX0_takeOut_54
      · refine z_aload_n Z dX0_takeOut_20 0 rfl ?_
        refine z_get Z dX0_takeOut_21 zin_X0_takeOut_X0 0 0 rfl rfl (by decide) zlk_X0_takeOut_9 rfl ?_
        refine z_iload_n Z dX0_takeOut_24 2 rfl ?_
        refine z_aload_n Z dX0_takeOut_25 0 rfl ?_
        refine z_get Z dX0_takeOut_26 zin_X0_takeOut_X0 0 0 rfl rfl (by decide) zlk_X0_takeOut_9 rfl ?_
        refine z_iload_n Z dX0_takeOut_29 2 rfl ?_
        refine z_iconst (v := 1) Z dX0_takeOut_30 rfl ?_
        refine z_iadd Z dX0_takeOut_31 ?_
        refine z_top (y := ((i + 1 : Nat) : Int)) (by omega) ?_
        refine z_ialdN Z dX0_takeOut_32 1 (i + 1) rfl (rfl) ⟨by omega, by omega⟩ ?_
        refine z_iastN Z dX0_takeOut_33 1 (i) [zO h0 0 [.ref aK, .ref aN, zi ((cnt - 1 : Nat) : Int)], zAI ct aK 40 (zN (zU (shL keys i0 i) i ((shL keys i0 i) (i + 1)))), zAI ct aN 40 (zN (shL names i0 i))] rfl (rfl) ⟨by omega, by omega⟩ rfl ?_
        refine z_aload_n Z dX0_takeOut_34 0 rfl ?_
        refine z_get Z dX0_takeOut_35 zin_X0_takeOut_X0 0 1 rfl rfl (by decide) zlk_X0_takeOut_15 rfl ?_
        refine z_iload_n Z dX0_takeOut_38 2 rfl ?_
        refine z_aload_n Z dX0_takeOut_39 0 rfl ?_
        refine z_get Z dX0_takeOut_40 zin_X0_takeOut_X0 0 1 rfl rfl (by decide) zlk_X0_takeOut_15 rfl ?_
        refine z_iload_n Z dX0_takeOut_43 2 rfl ?_
        refine z_iconst (v := 1) Z dX0_takeOut_44 rfl ?_
        refine z_iadd Z dX0_takeOut_45 ?_
        refine z_top (y := ((i + 1 : Nat) : Int)) (by omega) ?_
        refine z_ialdN Z dX0_takeOut_46 2 (i + 1) rfl (rfl) ⟨by omega, by omega⟩ ?_
        refine z_iastN Z dX0_takeOut_47 2 (i) [zO h0 0 [.ref aK, .ref aN, zi ((cnt - 1 : Nat) : Int)], zAI ct aK 40 (zN (zU (shL keys i0 i) i ((shL keys i0 i) (i + 1)))), zAI ct aN 40 (zN (zU (shL names i0 i) i ((shL names i0 i) (i + 1))))] rfl (rfl) ⟨by omega, by omega⟩ rfl ?_
        refine z_iinc (v := ((i + 1 : Nat) : Int)) Z dX0_takeOut_48 2 [(2, zi ((i + 1 : Nat) : Int)), (0, .ref h0), (1, zi ((i0 : Nat) : Int))] rfl (by omega) (by decide) rfl ?_
        refine z_goto Z 12 dX0_takeOut_51 (by decide) ?_
        refine z_lsub [1, 2, 0] [(0, .ref h0), (1, zi ((i0 : Nat) : Int)), (2, zi ((i + 1 : Nat) : Int))] rfl ?_
        exact ih0 (i + 1) _ _ _ (by omega) (by first | rfl | omega) (shL_s keys hi) (shL_s names hi) (by first | assumption | omega) (by first | assumption | omega)
  exact LOOP12 (cnt - i0 + 1) i0 _ _ _ (Nat.lt_succ_self _) (by first | rfl | omega) (shL_0 keys i0) (shL_0 names i0) (by first | assumption | omega) (by first | assumption | omega)
