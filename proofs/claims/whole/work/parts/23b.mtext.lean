theorem zin_X7_takes_X7 : ∀ w ∈ wsX70, w ∈ wsX7_takes := by decide +kernel
theorem zlk_X7_takes_108 : Cond.fieldLink RX7 108 "HashedDirectoryModel" "at" "I" ∈ wsX7_takes := by decide +kernel
theorem zlk_X7_takes_65 : Cond.fieldLink RX7 65 "HashedDirectoryModel" "length" "I" ∈ wsX7_takes := by decide +kernel
theorem zlk_X7_takes_17 : Cond.fieldLink RX7 17 "HashedDirectoryModel" "text" "[I" ∈ wsX7_takes := by decide +kernel
set_option maxHeartbeats 4000000 in
set_option maxRecDepth 100000 in
theorem zc_X7_takes_t (l : Launch) (D : va_G) (ct : zCT) (h0 : Nat) (aS : Nat) (aF : Nat) (aX : Nat) (th : Int) (sg : Int) (sv : Nat) (ln : Nat) (ta : Nat) (f1 : Nat) (l1 : Nat) (f2 : Nat) (l2 : Nat) (tx : Nat → Nat) (ch : Nat) (ht : ∀ j, j < 80 → tx j < 128) (hln : ln ≤ 80) (hta : ta ≤ ln) (hch : ch < 128) (htk : ta < ln ∧ tx ta = ch) : zMet l yX7_takes wsX7_takes ({ frames := 0, cells := 0, slots := 0, locals := 0 } : Room) D ct [.ref h0, zi ((ch : Nat) : Int)] [zO h0 6 [zi th, .ref aS, zi ((sv : Nat) : Int), .ref aF, .ref aX, zi ((ln : Nat) : Int), zi ((ta : Nat) : Int), zi sg, zi ((f1 : Nat) : Int), zi ((l1 : Nat) : Int), zi ((f2 : Nat) : Int), zi ((l2 : Nat) : Int)], zAI ct aX 80 (zN tx)] (fun _ : Unit => True) (fun _ => some (zi (zb (decide (0 = 0))))) (fun _ => [zO h0 6 [zi th, .ref aS, zi ((sv : Nat) : Int), .ref aF, .ref aX, zi ((ln : Nat) : Int), zi ((ta + 1 : Nat) : Int), zi sg, zi ((f1 : Nat) : Int), zi ((l1 : Nat) : Int), zi ((f2 : Nat) : Int), zi ((l2 : Nat) : Int)], zAI ct aX 80 (zN tx)]) 0 0 := by
  refine zMet_z (cc := cX7_takes) (maxL := 3) (r := fun _ => zb (decide (0 = 0))) (by decide) rfl (Nat.le_of_ble_eq_true rfl) (fun _ _ => zb_n _) ?_
  intro p e s m below meth c A Q Z hnm hR
  refine z_eqs _ [(0, .ref h0), (1, zi ((ch : Nat) : Int))] _ rfl rfl rfl ?_
  refine z_aload_n Z dX7_takes_0 0 rfl ?_
  refine z_get Z dX7_takes_1 zin_X7_takes_X7 0 6 rfl rfl (by decide) zlk_X7_takes_108 rfl ?_
  refine z_aload_n Z dX7_takes_4 0 rfl ?_
  refine z_get Z dX7_takes_5 zin_X7_takes_X7 0 5 rfl rfl (by decide) zlk_X7_takes_65 rfl ?_
  refine z_icmp_ge Z 28 dX7_takes_8 (by decide) (by omega) (by omega) (fun h8 => ?_) (fun h8 => ?_)
  · exfalso; first | contradiction | omega
  · refine z_aload_n Z dX7_takes_11 0 rfl ?_
    refine z_get Z dX7_takes_12 zin_X7_takes_X7 0 4 rfl rfl (by decide) zlk_X7_takes_17 rfl ?_
    refine z_aload_n Z dX7_takes_15 0 rfl ?_
    refine z_get Z dX7_takes_16 zin_X7_takes_X7 0 6 rfl rfl (by decide) zlk_X7_takes_108 rfl ?_
    refine z_ialdN Z dX7_takes_19 1 (ta) rfl (rfl) ⟨by omega, by omega⟩ ?_
    have he1 := ht (ta) (by omega)
    refine z_iload_n Z dX7_takes_20 1 rfl ?_
    refine z_icmp_ne Z 28 dX7_takes_21 (by decide) (by omega) (by omega) (fun h21 => ?_) (fun h21 => ?_)
    · exfalso; first | contradiction | omega
    · refine z_iconst (v := 1) Z dX7_takes_24 rfl ?_
      refine z_goto Z 29 dX7_takes_25 (by decide) ?_
      refine z_istore_n Z dX7_takes_29 [(2, zi 1), (0, .ref h0), (1, zi ((ch : Nat) : Int))] (by decide) rfl ?_
      refine z_aload_n Z dX7_takes_30 1 rfl ?_
      refine z_dup Z dX7_takes_31 rfl ?_
      refine z_get Z dX7_takes_32 zin_X7_takes_X7 0 6 rfl rfl (by decide) zlk_X7_takes_108 rfl ?_
      refine z_iload_n Z dX7_takes_35 0 rfl ?_
      refine z_if_eq Z 43 dX7_takes_36 (by decide) (by omega) (fun h36 => ?_) (fun h36 => ?_)
      · exfalso; first | contradiction | omega
      · refine z_iconst (v := 1) Z dX7_takes_39 rfl ?_
        refine z_goto Z 44 dX7_takes_40 (by decide) ?_
        refine z_iadd Z dX7_takes_44 ?_
        refine z_top (y := ((ta + 1 : Nat) : Int)) (by omega) ?_
        refine z_put (ty := .int) Z dX7_takes_45 zin_X7_takes_X7 tyX7 tyX7_ok nmX7 0 6 [zO h0 6 [zi th, .ref aS, zi ((sv : Nat) : Int), .ref aF, .ref aX, zi ((ln : Nat) : Int), zi ((ta + 1 : Nat) : Int), zi sg, zi ((f1 : Nat) : Int), zi ((l1 : Nat) : Int), zi ((f2 : Nat) : Int), zi ((l2 : Nat) : Int)], zAI ct aX 80 (zN tx)] rfl rfl (by decide) zlk_X7_takes_108 rfl (by decide +kernel) rfl rfl (Nat.le_of_ble_eq_true rfl) rfl ?_
        refine z_iload_n Z dX7_takes_48 0 rfl ?_
        refine z_eqs [zO h0 6 [zi th, .ref aS, zi ((sv : Nat) : Int), .ref aF, .ref aX, zi ((ln : Nat) : Int), zi ((ta + 1 : Nat) : Int), zi sg, zi ((f1 : Nat) : Int), zi ((l1 : Nat) : Int), zi ((f2 : Nat) : Int), zi ((l2 : Nat) : Int)], zAI ct aX 80 (zN tx)] _ [zi (zb (decide (0 = 0)))] (rfl) rfl (congrArg (fun z => [zi z]) (zb_p _ (by omega))) ?_
        exact hR _ _ () trivial dX7_takes_49
set_option maxHeartbeats 4000000 in
set_option maxRecDepth 100000 in
theorem zc_X7_takes_f (l : Launch) (D : va_G) (ct : zCT) (h0 : Nat) (aS : Nat) (aF : Nat) (aX : Nat) (th : Int) (sg : Int) (sv : Nat) (ln : Nat) (ta : Nat) (f1 : Nat) (l1 : Nat) (f2 : Nat) (l2 : Nat) (tx : Nat → Nat) (ch : Nat) (ht : ∀ j, j < 80 → tx j < 128) (hln : ln ≤ 80) (hta : ta ≤ ln) (hch : ch < 128) (htk : ¬ (ta < ln ∧ tx ta = ch)) : zMet l yX7_takes wsX7_takes ({ frames := 0, cells := 0, slots := 0, locals := 0 } : Room) D ct [.ref h0, zi ((ch : Nat) : Int)] [zO h0 6 [zi th, .ref aS, zi ((sv : Nat) : Int), .ref aF, .ref aX, zi ((ln : Nat) : Int), zi ((ta : Nat) : Int), zi sg, zi ((f1 : Nat) : Int), zi ((l1 : Nat) : Int), zi ((f2 : Nat) : Int), zi ((l2 : Nat) : Int)], zAI ct aX 80 (zN tx)] (fun _ : Unit => True) (fun _ => some (zi (zb (decide (1 = 0))))) (fun _ => [zO h0 6 [zi th, .ref aS, zi ((sv : Nat) : Int), .ref aF, .ref aX, zi ((ln : Nat) : Int), zi ((ta : Nat) : Int), zi sg, zi ((f1 : Nat) : Int), zi ((l1 : Nat) : Int), zi ((f2 : Nat) : Int), zi ((l2 : Nat) : Int)], zAI ct aX 80 (zN tx)]) 0 0 := by
  refine zMet_z (cc := cX7_takes) (maxL := 3) (r := fun _ => zb (decide (1 = 0))) (by decide) rfl (Nat.le_of_ble_eq_true rfl) (fun _ _ => zb_n _) ?_
  intro p e s m below meth c A Q Z hnm hR
  refine z_eqs _ [(0, .ref h0), (1, zi ((ch : Nat) : Int))] _ rfl rfl rfl ?_
  refine z_aload_n Z dX7_takes_0 0 rfl ?_
  refine z_get Z dX7_takes_1 zin_X7_takes_X7 0 6 rfl rfl (by decide) zlk_X7_takes_108 rfl ?_
  refine z_aload_n Z dX7_takes_4 0 rfl ?_
  refine z_get Z dX7_takes_5 zin_X7_takes_X7 0 5 rfl rfl (by decide) zlk_X7_takes_65 rfl ?_
  refine z_icmp_ge Z 28 dX7_takes_8 (by decide) (by omega) (by omega) (fun h8 => ?_) (fun h8 => ?_)
  · refine z_iconst (v := 0) Z dX7_takes_28 rfl ?_
    refine z_istore_n Z dX7_takes_29 [(2, zi 0), (0, .ref h0), (1, zi ((ch : Nat) : Int))] (by decide) rfl ?_
    refine z_aload_n Z dX7_takes_30 1 rfl ?_
    refine z_dup Z dX7_takes_31 rfl ?_
    refine z_get Z dX7_takes_32 zin_X7_takes_X7 0 6 rfl rfl (by decide) zlk_X7_takes_108 rfl ?_
    refine z_iload_n Z dX7_takes_35 0 rfl ?_
    refine z_if_eq Z 43 dX7_takes_36 (by decide) (by omega) (fun h36 => ?_) (fun h36 => ?_)
    · refine z_iconst (v := 0) Z dX7_takes_43 rfl ?_
      refine z_iadd Z dX7_takes_44 ?_
      refine z_top (y := ((ta + 0 : Nat) : Int)) (by omega) ?_
      refine z_put (ty := .int) Z dX7_takes_45 zin_X7_takes_X7 tyX7 tyX7_ok nmX7 0 6 [zO h0 6 [zi th, .ref aS, zi ((sv : Nat) : Int), .ref aF, .ref aX, zi ((ln : Nat) : Int), zi ((ta + 0 : Nat) : Int), zi sg, zi ((f1 : Nat) : Int), zi ((l1 : Nat) : Int), zi ((f2 : Nat) : Int), zi ((l2 : Nat) : Int)], zAI ct aX 80 (zN tx)] rfl rfl (by decide) zlk_X7_takes_108 rfl (by decide +kernel) rfl rfl (Nat.le_of_ble_eq_true rfl) rfl ?_
      refine z_iload_n Z dX7_takes_48 0 rfl ?_
      refine z_eqs [zO h0 6 [zi th, .ref aS, zi ((sv : Nat) : Int), .ref aF, .ref aX, zi ((ln : Nat) : Int), zi ((ta : Nat) : Int), zi sg, zi ((f1 : Nat) : Int), zi ((l1 : Nat) : Int), zi ((f2 : Nat) : Int), zi ((l2 : Nat) : Int)], zAI ct aX 80 (zN tx)] _ [zi (zb (decide (1 = 0)))] (rfl) rfl (congrArg (fun z => [zi z]) (zb_np _ (by omega))) ?_
      exact hR _ _ () trivial dX7_takes_49
    · exfalso; first | contradiction | omega
  · refine z_aload_n Z dX7_takes_11 0 rfl ?_
    refine z_get Z dX7_takes_12 zin_X7_takes_X7 0 4 rfl rfl (by decide) zlk_X7_takes_17 rfl ?_
    refine z_aload_n Z dX7_takes_15 0 rfl ?_
    refine z_get Z dX7_takes_16 zin_X7_takes_X7 0 6 rfl rfl (by decide) zlk_X7_takes_108 rfl ?_
    refine z_ialdN Z dX7_takes_19 1 (ta) rfl (rfl) ⟨by omega, by omega⟩ ?_
    have he1 := ht (ta) (by omega)
    refine z_iload_n Z dX7_takes_20 1 rfl ?_
    refine z_icmp_ne Z 28 dX7_takes_21 (by decide) (by omega) (by omega) (fun h21 => ?_) (fun h21 => ?_)
    · refine z_iconst (v := 0) Z dX7_takes_28 rfl ?_
      refine z_istore_n Z dX7_takes_29 [(2, zi 0), (0, .ref h0), (1, zi ((ch : Nat) : Int))] (by decide) rfl ?_
      refine z_aload_n Z dX7_takes_30 1 rfl ?_
      refine z_dup Z dX7_takes_31 rfl ?_
      refine z_get Z dX7_takes_32 zin_X7_takes_X7 0 6 rfl rfl (by decide) zlk_X7_takes_108 rfl ?_
      refine z_iload_n Z dX7_takes_35 0 rfl ?_
      refine z_if_eq Z 43 dX7_takes_36 (by decide) (by omega) (fun h36 => ?_) (fun h36 => ?_)
      · refine z_iconst (v := 0) Z dX7_takes_43 rfl ?_
        refine z_iadd Z dX7_takes_44 ?_
        refine z_top (y := ((ta + 0 : Nat) : Int)) (by omega) ?_
        refine z_put (ty := .int) Z dX7_takes_45 zin_X7_takes_X7 tyX7 tyX7_ok nmX7 0 6 [zO h0 6 [zi th, .ref aS, zi ((sv : Nat) : Int), .ref aF, .ref aX, zi ((ln : Nat) : Int), zi ((ta + 0 : Nat) : Int), zi sg, zi ((f1 : Nat) : Int), zi ((l1 : Nat) : Int), zi ((f2 : Nat) : Int), zi ((l2 : Nat) : Int)], zAI ct aX 80 (zN tx)] rfl rfl (by decide) zlk_X7_takes_108 rfl (by decide +kernel) rfl rfl (Nat.le_of_ble_eq_true rfl) rfl ?_
        refine z_iload_n Z dX7_takes_48 0 rfl ?_
        refine z_eqs [zO h0 6 [zi th, .ref aS, zi ((sv : Nat) : Int), .ref aF, .ref aX, zi ((ln : Nat) : Int), zi ((ta : Nat) : Int), zi sg, zi ((f1 : Nat) : Int), zi ((l1 : Nat) : Int), zi ((f2 : Nat) : Int), zi ((l2 : Nat) : Int)], zAI ct aX 80 (zN tx)] _ [zi (zb (decide (1 = 0)))] (rfl) rfl (congrArg (fun z => [zi z]) (zb_np _ (by omega))) ?_
        exact hR _ _ () trivial dX7_takes_49
      · exfalso; first | contradiction | omega
    · exfalso; first | contradiction | omega
theorem zin_X7_readsName_X7 : ∀ w ∈ wsX70, w ∈ wsX7_readsName := by decide +kernel
theorem zlk_X7_readsName_108 : Cond.fieldLink RX7 108 "HashedDirectoryModel" "at" "I" ∈ wsX7_readsName := by decide +kernel
theorem zlk_X7_readsName_65 : Cond.fieldLink RX7 65 "HashedDirectoryModel" "length" "I" ∈ wsX7_readsName := by decide +kernel
theorem zlk_X7_readsName_17 : Cond.fieldLink RX7 17 "HashedDirectoryModel" "text" "[I" ∈ wsX7_readsName := by decide +kernel
set_option maxHeartbeats 4000000 in
set_option maxRecDepth 100000 in
theorem zc_X7_readsName (l : Launch) (D : va_G) (ct : zCT) (h0 : Nat) (aS : Nat) (aF : Nat) (aX : Nat) (th : Int) (sg : Int) (sv : Nat) (ln : Nat) (ta : Nat) (f1 : Nat) (l1 : Nat) (f2 : Nat) (l2 : Nat) (tx : Nat → Nat) (ht : ∀ j, j < 80 → tx j < 128) (hln : ln ≤ 80) (hta : ta ≤ ln) : zMet l yX7_readsName wsX7_readsName ({ frames := 1, cells := 0, slots := 0, locals := 22 } : Room) D ct [.ref h0] [zO h0 6 [zi th, .ref aS, zi ((sv : Nat) : Int), .ref aF, .ref aX, zi ((ln : Nat) : Int), zi ((ta : Nat) : Int), zi sg, zi ((f1 : Nat) : Int), zi ((l1 : Nat) : Int), zi ((f2 : Nat) : Int), zi ((l2 : Nat) : Int)], zAI ct aX 80 (zN tx)] (fun _ : Unit => True) (fun _ => some (zi (((rnF tx ln ta : Nat) : Int)))) (fun _ => [zO h0 6 [zi th, .ref aS, zi ((sv : Nat) : Int), .ref aF, .ref aX, zi ((ln : Nat) : Int), zi ((ta + rnF tx ln ta : Nat) : Int), zi sg, zi ((f1 : Nat) : Int), zi ((l1 : Nat) : Int), zi ((f2 : Nat) : Int), zi ((l2 : Nat) : Int)], zAI ct aX 80 (zN tx)]) 0 0 := by
  refine zMet_i (cc := cX7_readsName) (maxL := 2) (r := fun _ => ((rnF tx ln ta : Nat) : Int)) (by decide) rfl (Nat.le_of_ble_eq_true rfl) ?_
  intro p e s m below meth c A Q Z hnm hR
  refine z_eqs _ [(0, .ref h0)] _ rfl rfl rfl ?_
  refine z_iconst (v := 0) Z dX7_readsName_0 rfl ?_
  refine z_istore_n Z dX7_readsName_1 [(1, zi 0), (0, .ref h0)] (by decide) rfl ?_
  refine z_lsub [1, 0] [(0, .ref h0), (1, zi 0)] rfl ?_
  have LOOP2 : ∀ (N0 : Nat) (i : Nat) (x1 : Int) (y0_6 : Int), 7 - i < N0 → x1 = ((i : Nat) : Int) → y0_6 = ((ta + i : Nat) : Int) → (i ≤ 6) → (ta + i ≤ ln) → (∀ j, j < i → ltC tx ln ta j = false) → zW p l e ({ frames := 1, cells := 0, slots := 0, locals := 22 } : Room) s m ([.ref h0] : List Value).toArray below meth c D A 2 Q 0 0 [zO h0 6 [zi th, .ref aS, zi ((sv : Nat) : Int), .ref aF, .ref aX, zi ((ln : Nat) : Int), zi y0_6, zi sg, zi ((f1 : Nat) : Int), zi ((l1 : Nat) : Int), zi ((f2 : Nat) : Int), zi ((l2 : Nat) : Int)], zAI ct aX 80 (zN tx)] [(0, .ref h0), (1, zi x1)] 2 [] := by
    intro N0
    induction N0 with
    | zero => intro i x1 y0_6 hm0; exact absurd hm0 (Nat.not_lt_zero _)
    | succ N0 ih0 =>
      intro i x1 y0_6 hm0 ex1 ey0_6 hi hi2 hj
      subst ex1
      subst ey0_6
      refine z_iload_n Z dX7_readsName_2 1 rfl ?_
      refine z_bipush (v := 6) Z dX7_readsName_3 (by decide +kernel) ?_
      refine z_icmp_ge Z 54 dX7_readsName_5 (by decide) (by omega) (by omega) (fun h5 => ?_) (fun h5 => ?_)
      · refine z_iload_n Z dX7_readsName_54 1 rfl ?_
        refine z_eqs [zO h0 6 [zi th, .ref aS, zi ((sv : Nat) : Int), .ref aF, .ref aX, zi ((ln : Nat) : Int), zi ((ta + rnF tx ln ta : Nat) : Int), zi sg, zi ((f1 : Nat) : Int), zi ((l1 : Nat) : Int), zi ((f2 : Nat) : Int), zi ((l2 : Nat) : Int)], zAI ct aX 80 (zN tx)] _ [zi ((rnF tx ln ta : Nat) : Int)] (by rw [rnF_eq hi hj (fun h9 => decide_eq_true (by omega))]) rfl (congrArg (fun z => [zi z]) (by rw [rnF_eq hi hj (fun h9 => decide_eq_true (by omega))])) ?_
        exact hR _ _ () trivial dX7_readsName_55
      · refine z_aload_n Z dX7_readsName_8 0 rfl ?_
        refine z_get Z dX7_readsName_9 zin_X7_readsName_X7 0 6 rfl rfl (by decide) zlk_X7_readsName_108 rfl ?_
        refine z_aload_n Z dX7_readsName_12 0 rfl ?_
        refine z_get Z dX7_readsName_13 zin_X7_readsName_X7 0 5 rfl rfl (by decide) zlk_X7_readsName_65 rfl ?_
        refine z_icmp_ge Z 54 dX7_readsName_16 (by decide) (by omega) (by omega) (fun h16 => ?_) (fun h16 => ?_)
        · refine z_iload_n Z dX7_readsName_54 1 rfl ?_
          refine z_eqs [zO h0 6 [zi th, .ref aS, zi ((sv : Nat) : Int), .ref aF, .ref aX, zi ((ln : Nat) : Int), zi ((ta + rnF tx ln ta : Nat) : Int), zi sg, zi ((f1 : Nat) : Int), zi ((l1 : Nat) : Int), zi ((f2 : Nat) : Int), zi ((l2 : Nat) : Int)], zAI ct aX 80 (zN tx)] _ [zi ((rnF tx ln ta : Nat) : Int)] (by rw [rnF_eq hi hj (fun h9 => decide_eq_true (by omega))]) rfl (congrArg (fun z => [zi z]) (by rw [rnF_eq hi hj (fun h9 => decide_eq_true (by omega))])) ?_
          exact hR _ _ () trivial dX7_readsName_55
        · refine z_aload_n Z dX7_readsName_19 0 rfl ?_
          refine z_get Z dX7_readsName_20 zin_X7_readsName_X7 0 4 rfl rfl (by decide) zlk_X7_readsName_17 rfl ?_
          refine z_aload_n Z dX7_readsName_23 0 rfl ?_
          refine z_get Z dX7_readsName_24 zin_X7_readsName_X7 0 6 rfl rfl (by decide) zlk_X7_readsName_108 rfl ?_
          refine z_ialdN Z dX7_readsName_27 1 (ta + i) rfl (rfl) ⟨by omega, by omega⟩ ?_
          have he1 := ht (ta + i) (by omega)
          refine z_bipush (v := 97) Z dX7_readsName_28 (by decide +kernel) ?_
          refine z_bipush (v := 122) Z dX7_readsName_30 (by decide +kernel) ?_
          refine z_callSu (rest := []) Z dX7_readsName_32 (zc_X7_in l D ct (((tx (ta + i) : Nat) : Int)) (97) (122) (by first | assumption | omega) (by first | assumption | omega) (by first | assumption | omega)) (va_cwS 3 Z.1.2.2.2.2 gX7_readsName_X7_in rfl rfl rfl (by decide +kernel) ⟨Nat.le_of_ble_eq_true rfl, Nat.le_of_ble_eq_true rfl⟩) rfl (Nat.le_of_ble_eq_true rfl) ⟨Nat.le_of_ble_eq_true rfl, Nat.le_of_ble_eq_true rfl⟩ [false, false] [zO h0 6 [zi th, .ref aS, zi ((sv : Nat) : Int), .ref aF, .ref aX, zi ((ln : Nat) : Int), zi ((ta + i : Nat) : Int), zi sg, zi ((f1 : Nat) : Int), zi ((l1 : Nat) : Int), zi ((f2 : Nat) : Int), zi ((l2 : Nat) : Int)], zAI ct aX 80 (zN tx)] [zi (zb (decide (97 ≤ ((tx (ta + i) : Nat) : Int) ∧ ((tx (ta + i) : Nat) : Int) ≤ 122)))] rfl rfl rfl rfl ?_
          refine z_ifb_eq Z 54 dX7_readsName_35 (by decide) (fun h35 => ?_) (fun h35 => ?_)
          · have h35 := of_decide_eq_false h35
            refine z_iload_n Z dX7_readsName_54 1 rfl ?_
            refine z_eqs [zO h0 6 [zi th, .ref aS, zi ((sv : Nat) : Int), .ref aF, .ref aX, zi ((ln : Nat) : Int), zi ((ta + rnF tx ln ta : Nat) : Int), zi sg, zi ((f1 : Nat) : Int), zi ((l1 : Nat) : Int), zi ((f2 : Nat) : Int), zi ((l2 : Nat) : Int)], zAI ct aX 80 (zN tx)] _ [zi ((rnF tx ln ta : Nat) : Int)] (by rw [rnF_eq hi hj (fun h9 => decide_eq_true (by omega))]) rfl (congrArg (fun z => [zi z]) (by rw [rnF_eq hi hj (fun h9 => decide_eq_true (by omega))])) ?_
            exact hR _ _ () trivial dX7_readsName_55
          · have h35 := of_decide_eq_true h35
            refine z_aload_n Z dX7_readsName_38 0 rfl ?_
            refine z_dup Z dX7_readsName_39 rfl ?_
            refine z_get Z dX7_readsName_40 zin_X7_readsName_X7 0 6 rfl rfl (by decide) zlk_X7_readsName_108 rfl ?_
            refine z_iconst (v := 1) Z dX7_readsName_43 rfl ?_
            refine z_iadd Z dX7_readsName_44 ?_
            refine z_top (y := (((ta + i) + 1 : Nat) : Int)) (by omega) ?_
            refine z_put (ty := .int) Z dX7_readsName_45 zin_X7_readsName_X7 tyX7 tyX7_ok nmX7 0 6 [zO h0 6 [zi th, .ref aS, zi ((sv : Nat) : Int), .ref aF, .ref aX, zi ((ln : Nat) : Int), zi (((ta + i) + 1 : Nat) : Int), zi sg, zi ((f1 : Nat) : Int), zi ((l1 : Nat) : Int), zi ((f2 : Nat) : Int), zi ((l2 : Nat) : Int)], zAI ct aX 80 (zN tx)] rfl rfl (by decide) zlk_X7_readsName_108 rfl (by decide +kernel) rfl rfl (Nat.le_of_ble_eq_true rfl) rfl ?_
            refine z_iinc (v := ((i + 1 : Nat) : Int)) Z dX7_readsName_48 1 [(1, zi ((i + 1 : Nat) : Int)), (0, .ref h0)] rfl (by omega) (by decide) rfl ?_
            refine z_goto Z 2 dX7_readsName_51 (by decide) ?_
            refine z_lsub [1, 0] [(0, .ref h0), (1, zi ((i + 1 : Nat) : Int))] rfl ?_
            exact ih0 (i + 1) _ _ (by omega) (by first | rfl | omega) (by first | rfl | omega) (by first | assumption | omega) (by first | assumption | omega) (lt_succ_all hj (decide_eq_false (fun h9 => h9 (by omega))))
  exact LOOP2 (7 - 0 + 1) 0 _ _ (Nat.lt_succ_self _) (by first | rfl | omega) (by first | rfl | omega) (by first | assumption | omega) (by first | assumption | omega) (fun j hj => absurd hj (Nat.not_lt_zero j))
theorem zin_X7_readsCommand_X7 : ∀ w ∈ wsX70, w ∈ wsX7_readsCommand := by decide +kernel
theorem zlk_X7_readsCommand_108 : Cond.fieldLink RX7 108 "HashedDirectoryModel" "at" "I" ∈ wsX7_readsCommand := by decide +kernel
theorem zlk_X7_readsCommand_65 : Cond.fieldLink RX7 65 "HashedDirectoryModel" "length" "I" ∈ wsX7_readsCommand := by decide +kernel
theorem zlk_X7_readsCommand_17 : Cond.fieldLink RX7 17 "HashedDirectoryModel" "text" "[I" ∈ wsX7_readsCommand := by decide +kernel
theorem zlk_X7_readsCommand_111 : Cond.fieldLink RX7 111 "HashedDirectoryModel" "sign" "I" ∈ wsX7_readsCommand := by decide +kernel
theorem zlk_X7_readsCommand_117 : Cond.fieldLink RX7 117 "HashedDirectoryModel" "first" "I" ∈ wsX7_readsCommand := by decide +kernel
theorem zlk_X7_readsCommand_124 : Cond.fieldLink RX7 124 "HashedDirectoryModel" "firstLength" "I" ∈ wsX7_readsCommand := by decide +kernel
theorem zlk_X7_readsCommand_127 : Cond.fieldLink RX7 127 "HashedDirectoryModel" "second" "I" ∈ wsX7_readsCommand := by decide +kernel
theorem zlk_X7_readsCommand_130 : Cond.fieldLink RX7 130 "HashedDirectoryModel" "secondLength" "I" ∈ wsX7_readsCommand := by decide +kernel
set_option maxHeartbeats 4000000 in
set_option maxRecDepth 100000 in
theorem zc_X7_readsCommand (l : Launch) (D : va_G) (ct : zCT) (h0 : Nat) (aS : Nat) (aF : Nat) (aX : Nat) (th : Int) (sg : Int) (sv : Nat) (ln : Nat) (ta : Nat) (f1 : Nat) (l1 : Nat) (f2 : Nat) (l2 : Nat) (tx : Nat → Nat) (ht : ∀ j, j < 80 → tx j < 128) (hln : ln ≤ 80) (hta : ta ≤ ln) : zMet l yX7_readsCommand wsX7_readsCommand ({ frames := 2, cells := 0, slots := 0, locals := 43 } : Room) D ct [.ref h0] [zO h0 6 [zi th, .ref aS, zi ((sv : Nat) : Int), .ref aF, .ref aX, zi ((ln : Nat) : Int), zi ((ta : Nat) : Int), zi sg, zi ((f1 : Nat) : Int), zi ((l1 : Nat) : Int), zi ((f2 : Nat) : Int), zi ((l2 : Nat) : Int)], zAI ct aX 80 (zN tx)] (fun _ : Unit => True) (fun _ => some (zi (zb (decide (rcB tx ln ta))))) (fun _ => [zO h0 6 [zi th, .ref aS, zi ((sv : Nat) : Int), .ref aF, .ref aX, zi ((ln : Nat) : Int), zi (((rcP tx ln ta f2 l2).1 : Nat) : Int), zi ((rcP tx ln ta f2 l2).2.1), zi (((rcP tx ln ta f2 l2).2.2.1 : Nat) : Int), zi (((rcP tx ln ta f2 l2).2.2.2.1 : Nat) : Int), zi (((rcP tx ln ta f2 l2).2.2.2.2.1 : Nat) : Int), zi (((rcP tx ln ta f2 l2).2.2.2.2.2 : Nat) : Int)], zAI ct aX 80 (zN tx)]) 0 0 := by
  refine zMet_z (cc := cX7_readsCommand) (maxL := 2) (r := fun _ => zb (decide (rcB tx ln ta))) (by decide) rfl (Nat.le_of_ble_eq_true rfl) (fun _ _ => zb_n _) ?_
  intro p e s m below meth c A Q Z hnm hR
  refine z_eqs _ [(0, .ref h0)] _ rfl rfl rfl ?_
  rcases rcX tx ln ta f2 l2 with ⟨hk1, hw9, hb9⟩ | ⟨hk1, hw9, hb9⟩ | ⟨hk1, hw9, hb9⟩ | ⟨hk1, hw9, hb9⟩ | ⟨hk1, hw9, hb9⟩ | ⟨hk1, hw9, hb9⟩
  · refine z_aload_n Z dX7_readsCommand_0 0 rfl ?_
    refine z_aload_n Z dX7_readsCommand_1 0 rfl ?_
    refine z_get Z dX7_readsCommand_2 zin_X7_readsCommand_X7 0 6 rfl rfl (by decide) zlk_X7_readsCommand_108 rfl ?_
    refine z_aload_n Z dX7_readsCommand_5 0 rfl ?_
    refine z_get Z dX7_readsCommand_6 zin_X7_readsCommand_X7 0 5 rfl rfl (by decide) zlk_X7_readsCommand_65 rfl ?_
    refine z_icmp_ge Z 24 dX7_readsCommand_9 (by decide) (by omega) (by omega) (fun h9 => ?_) (fun h9 => ?_)
    · exfalso; first | contradiction | omega
    · refine z_aload_n Z dX7_readsCommand_12 0 rfl ?_
      refine z_get Z dX7_readsCommand_13 zin_X7_readsCommand_X7 0 4 rfl rfl (by decide) zlk_X7_readsCommand_17 rfl ?_
      refine z_aload_n Z dX7_readsCommand_16 0 rfl ?_
      refine z_get Z dX7_readsCommand_17 zin_X7_readsCommand_X7 0 6 rfl rfl (by decide) zlk_X7_readsCommand_108 rfl ?_
      refine z_ialdN Z dX7_readsCommand_20 1 (ta) rfl (rfl) ⟨by omega, by omega⟩ ?_
      have he1 := ht (ta) (by omega)
      refine z_goto Z 25 dX7_readsCommand_21 (by decide) ?_
      refine z_put (ty := .int) Z dX7_readsCommand_25 zin_X7_readsCommand_X7 tyX7 tyX7_ok nmX7 0 7 [zO h0 6 [zi th, .ref aS, zi ((sv : Nat) : Int), .ref aF, .ref aX, zi ((ln : Nat) : Int), zi ((ta : Nat) : Int), zi ((tx ta : Nat) : Int), zi ((f1 : Nat) : Int), zi ((l1 : Nat) : Int), zi ((f2 : Nat) : Int), zi ((l2 : Nat) : Int)], zAI ct aX 80 (zN tx)] rfl rfl (by decide) zlk_X7_readsCommand_111 rfl (by decide +kernel) rfl rfl (Nat.le_of_ble_eq_true rfl) rfl ?_
      refine z_aload_n Z dX7_readsCommand_28 0 rfl ?_
      refine z_bipush (v := 43) Z dX7_readsCommand_29 (by decide +kernel) ?_
      refine z_callVu (rest := []) Z dX7_readsCommand_31 6 0 _ _ rfl rfl rfl (zc_X7_takes_t l D ct (h0) (aS) (aF) (aX) (th) (((tx ta : Nat) : Int)) (sv) (ln) (ta) (f1) (l1) (f2) (l2) (tx) (43) (by first | assumption | omega) (by first | assumption | omega) (by first | assumption | omega) (by decide) (by first | assumption | omega)) (cwV 1 Z.1.2.2.2.2 gX7_readsCommand_X7_takes rfl rfl rfl (by decide +kernel) ⟨Nat.le_of_ble_eq_true rfl, Nat.le_of_ble_eq_true rfl⟩) rfl (Nat.le_of_ble_eq_true rfl) ⟨Nat.le_of_ble_eq_true rfl, Nat.le_of_ble_eq_true rfl⟩ [true, true] [zO h0 6 [zi th, .ref aS, zi ((sv : Nat) : Int), .ref aF, .ref aX, zi ((ln : Nat) : Int), zi ((ta + 1 : Nat) : Int), zi ((tx ta : Nat) : Int), zi ((f1 : Nat) : Int), zi ((l1 : Nat) : Int), zi ((f2 : Nat) : Int), zi ((l2 : Nat) : Int)], zAI ct aX 80 (zN tx)] [zi (zb (decide (0 = 0)))] rfl rfl rfl rfl ?_
      refine z_ifb_ne Z 46 dX7_readsCommand_34 (by decide) (fun h34 => ?_) (fun h34 => ?_)
      · have h34 := of_decide_eq_true h34
        refine z_iconst (v := 1) Z dX7_readsCommand_46 rfl ?_
        refine z_goto Z 51 dX7_readsCommand_47 (by decide) ?_
        refine z_istore_n Z dX7_readsCommand_51 [(1, zi 1), (0, .ref h0)] (by decide) rfl ?_
        refine z_eqs [zO h0 6 [zi th, .ref aS, zi ((sv : Nat) : Int), .ref aF, .ref aX, zi ((ln : Nat) : Int), zi ((rc1 tx ln ta : Nat) : Int), zi ((tx ta : Nat) : Int), zi ((f1 : Nat) : Int), zi ((l1 : Nat) : Int), zi ((f2 : Nat) : Int), zi ((l2 : Nat) : Int)], zAI ct aX 80 (zN tx)] _ _ (by rw [show rc1 tx ln ta = (ta + 1) from by omega]) rfl rfl ?_
        refine z_aload_n Z dX7_readsCommand_52 1 rfl ?_
        refine z_aload_n Z dX7_readsCommand_53 1 rfl ?_
        refine z_get Z dX7_readsCommand_54 zin_X7_readsCommand_X7 0 6 rfl rfl (by decide) zlk_X7_readsCommand_108 rfl ?_
        refine z_put (ty := .int) Z dX7_readsCommand_57 zin_X7_readsCommand_X7 tyX7 tyX7_ok nmX7 0 8 [zO h0 6 [zi th, .ref aS, zi ((sv : Nat) : Int), .ref aF, .ref aX, zi ((ln : Nat) : Int), zi ((rc1 tx ln ta : Nat) : Int), zi ((tx ta : Nat) : Int), zi ((rc1 tx ln ta : Nat) : Int), zi ((l1 : Nat) : Int), zi ((f2 : Nat) : Int), zi ((l2 : Nat) : Int)], zAI ct aX 80 (zN tx)] rfl rfl (by decide) zlk_X7_readsCommand_117 rfl (by decide +kernel) rfl rfl (Nat.le_of_ble_eq_true rfl) rfl ?_
        refine z_aload_n Z dX7_readsCommand_60 1 rfl ?_
        refine z_aload_n Z dX7_readsCommand_61 1 rfl ?_
        have hn9 := rnF_le tx ln (rc1 tx ln ta)
        have hn7 := rc1_le tx hta
        refine z_callVu (rest := [.ref h0]) Z dX7_readsCommand_62 6 0 _ _ rfl rfl rfl (zc_X7_readsName l D ct (h0) (aS) (aF) (aX) (th) (((tx ta : Nat) : Int)) (sv) (ln) (rc1 tx ln ta) (rc1 tx ln ta) (l1) (f2) (l2) (tx) (by first | assumption | omega) (by first | assumption | omega) (by first | assumption | omega)) (cwV 0 Z.1.2.2.2.2 gX7_readsCommand_X7_readsName rfl rfl rfl (by decide +kernel) ⟨Nat.le_of_ble_eq_true rfl, Nat.le_of_ble_eq_true rfl⟩) rfl (Nat.le_of_ble_eq_true rfl) ⟨Nat.le_of_ble_eq_true rfl, Nat.le_of_ble_eq_true rfl⟩ [true, true] [zO h0 6 [zi th, .ref aS, zi ((sv : Nat) : Int), .ref aF, .ref aX, zi ((ln : Nat) : Int), zi (((rc1 tx ln ta) + rnF tx ln (rc1 tx ln ta) : Nat) : Int), zi ((tx ta : Nat) : Int), zi (((rc1 tx ln ta) : Nat) : Int), zi ((l1 : Nat) : Int), zi ((f2 : Nat) : Int), zi ((l2 : Nat) : Int)], zAI ct aX 80 (zN tx)] [zi ((rnF tx ln (rc1 tx ln ta) : Nat) : Int), .ref h0] rfl rfl rfl rfl ?_
        refine z_put (ty := .int) Z dX7_readsCommand_65 zin_X7_readsCommand_X7 tyX7 tyX7_ok nmX7 0 9 [zO h0 6 [zi th, .ref aS, zi ((sv : Nat) : Int), .ref aF, .ref aX, zi ((ln : Nat) : Int), zi (((rc1 tx ln ta) + rnF tx ln (rc1 tx ln ta) : Nat) : Int), zi ((tx ta : Nat) : Int), zi (((rc1 tx ln ta) : Nat) : Int), zi ((rnF tx ln (rc1 tx ln ta) : Nat) : Int), zi ((f2 : Nat) : Int), zi ((l2 : Nat) : Int)], zAI ct aX 80 (zN tx)] rfl rfl (by decide) zlk_X7_readsCommand_124 rfl (by decide +kernel) rfl rfl (Nat.le_of_ble_eq_true rfl) rfl ?_
        have hn8 := rcE_le tx hta
        refine z_eqs [zO h0 6 [zi th, .ref aS, zi ((sv : Nat) : Int), .ref aF, .ref aX, zi ((ln : Nat) : Int), zi ((rcE tx ln ta : Nat) : Int), zi ((tx ta : Nat) : Int), zi (((rc1 tx ln ta) : Nat) : Int), zi ((rnF tx ln (rc1 tx ln ta) : Nat) : Int), zi ((f2 : Nat) : Int), zi ((l2 : Nat) : Int)], zAI ct aX 80 (zN tx)] _ _ (rfl) rfl rfl ?_
        refine z_iload_n Z dX7_readsCommand_68 0 rfl ?_
        refine z_if_ne Z 79 dX7_readsCommand_69 (by decide) (by omega) (fun h69 => ?_) (fun h69 => ?_)
        · refine z_iload_n Z dX7_readsCommand_79 0 rfl ?_
          refine z_if_eq Z 94 dX7_readsCommand_80 (by decide) (by omega) (fun h80 => ?_) (fun h80 => ?_)
          · exfalso; first | contradiction | omega
          · refine z_aload_n Z dX7_readsCommand_83 1 rfl ?_
            refine z_get Z dX7_readsCommand_84 zin_X7_readsCommand_X7 0 9 rfl rfl (by decide) zlk_X7_readsCommand_124 rfl ?_
            refine z_if_le Z 94 dX7_readsCommand_87 (by decide) (by omega) (fun h87 => ?_) (fun h87 => ?_)
            · refine z_iconst (v := 0) Z dX7_readsCommand_94 rfl ?_
              refine z_eqs [zO h0 6 [zi th, .ref aS, zi ((sv : Nat) : Int), .ref aF, .ref aX, zi ((ln : Nat) : Int), zi (((rcP tx ln ta f2 l2).1 : Nat) : Int), zi ((rcP tx ln ta f2 l2).2.1), zi (((rcP tx ln ta f2 l2).2.2.1 : Nat) : Int), zi (((rcP tx ln ta f2 l2).2.2.2.1 : Nat) : Int), zi (((rcP tx ln ta f2 l2).2.2.2.2.1 : Nat) : Int), zi (((rcP tx ln ta f2 l2).2.2.2.2.2 : Nat) : Int)], zAI ct aX 80 (zN tx)] _ [zi (zb (decide (rcB tx ln ta)))] (by simp only [hw9]) rfl (congrArg (fun z => [zi z]) (zb_np _ (fun z => absurd (hb9.mp z) (by omega)))) ?_
              exact hR _ _ () trivial dX7_readsCommand_95
            · refine z_iconst (v := 1) Z dX7_readsCommand_90 rfl ?_
              refine z_goto Z 95 dX7_readsCommand_91 (by decide) ?_
              refine z_eqs [zO h0 6 [zi th, .ref aS, zi ((sv : Nat) : Int), .ref aF, .ref aX, zi ((ln : Nat) : Int), zi (((rcP tx ln ta f2 l2).1 : Nat) : Int), zi ((rcP tx ln ta f2 l2).2.1), zi (((rcP tx ln ta f2 l2).2.2.1 : Nat) : Int), zi (((rcP tx ln ta f2 l2).2.2.2.1 : Nat) : Int), zi (((rcP tx ln ta f2 l2).2.2.2.2.1 : Nat) : Int), zi (((rcP tx ln ta f2 l2).2.2.2.2.2 : Nat) : Int)], zAI ct aX 80 (zN tx)] _ [zi (zb (decide (rcB tx ln ta)))] (by simp only [hw9]) rfl (congrArg (fun z => [zi z]) (zb_p _ (hb9.mpr (by omega)))) ?_
              exact hR _ _ () trivial dX7_readsCommand_95
        · exfalso; first | contradiction | omega
      · have h34 := of_decide_eq_false h34
        exfalso; first | contradiction | omega
  · refine z_aload_n Z dX7_readsCommand_0 0 rfl ?_
    refine z_aload_n Z dX7_readsCommand_1 0 rfl ?_
    refine z_get Z dX7_readsCommand_2 zin_X7_readsCommand_X7 0 6 rfl rfl (by decide) zlk_X7_readsCommand_108 rfl ?_
    refine z_aload_n Z dX7_readsCommand_5 0 rfl ?_
    refine z_get Z dX7_readsCommand_6 zin_X7_readsCommand_X7 0 5 rfl rfl (by decide) zlk_X7_readsCommand_65 rfl ?_
    refine z_icmp_ge Z 24 dX7_readsCommand_9 (by decide) (by omega) (by omega) (fun h9 => ?_) (fun h9 => ?_)
    · exfalso; first | contradiction | omega
    · refine z_aload_n Z dX7_readsCommand_12 0 rfl ?_
      refine z_get Z dX7_readsCommand_13 zin_X7_readsCommand_X7 0 4 rfl rfl (by decide) zlk_X7_readsCommand_17 rfl ?_
      refine z_aload_n Z dX7_readsCommand_16 0 rfl ?_
      refine z_get Z dX7_readsCommand_17 zin_X7_readsCommand_X7 0 6 rfl rfl (by decide) zlk_X7_readsCommand_108 rfl ?_
      refine z_ialdN Z dX7_readsCommand_20 1 (ta) rfl (rfl) ⟨by omega, by omega⟩ ?_
      have he2 := ht (ta) (by omega)
      refine z_goto Z 25 dX7_readsCommand_21 (by decide) ?_
      refine z_put (ty := .int) Z dX7_readsCommand_25 zin_X7_readsCommand_X7 tyX7 tyX7_ok nmX7 0 7 [zO h0 6 [zi th, .ref aS, zi ((sv : Nat) : Int), .ref aF, .ref aX, zi ((ln : Nat) : Int), zi ((ta : Nat) : Int), zi ((tx ta : Nat) : Int), zi ((f1 : Nat) : Int), zi ((l1 : Nat) : Int), zi ((f2 : Nat) : Int), zi ((l2 : Nat) : Int)], zAI ct aX 80 (zN tx)] rfl rfl (by decide) zlk_X7_readsCommand_111 rfl (by decide +kernel) rfl rfl (Nat.le_of_ble_eq_true rfl) rfl ?_
      refine z_aload_n Z dX7_readsCommand_28 0 rfl ?_
      refine z_bipush (v := 43) Z dX7_readsCommand_29 (by decide +kernel) ?_
      refine z_callVu (rest := []) Z dX7_readsCommand_31 6 0 _ _ rfl rfl rfl (zc_X7_takes_f l D ct (h0) (aS) (aF) (aX) (th) (((tx ta : Nat) : Int)) (sv) (ln) (ta) (f1) (l1) (f2) (l2) (tx) (43) (by first | assumption | omega) (by first | assumption | omega) (by first | assumption | omega) (by decide) (by first | assumption | omega)) (cwV 1 Z.1.2.2.2.2 gX7_readsCommand_X7_takes rfl rfl rfl (by decide +kernel) ⟨Nat.le_of_ble_eq_true rfl, Nat.le_of_ble_eq_true rfl⟩) rfl (Nat.le_of_ble_eq_true rfl) ⟨Nat.le_of_ble_eq_true rfl, Nat.le_of_ble_eq_true rfl⟩ [true, true] [zO h0 6 [zi th, .ref aS, zi ((sv : Nat) : Int), .ref aF, .ref aX, zi ((ln : Nat) : Int), zi ((ta : Nat) : Int), zi ((tx ta : Nat) : Int), zi ((f1 : Nat) : Int), zi ((l1 : Nat) : Int), zi ((f2 : Nat) : Int), zi ((l2 : Nat) : Int)], zAI ct aX 80 (zN tx)] [zi (zb (decide (1 = 0)))] rfl rfl rfl rfl ?_
      refine z_ifb_ne Z 46 dX7_readsCommand_34 (by decide) (fun h34 => ?_) (fun h34 => ?_)
      · have h34 := of_decide_eq_true h34
        exfalso; first | contradiction | omega
      · have h34 := of_decide_eq_false h34
        refine z_aload_n Z dX7_readsCommand_37 0 rfl ?_
        refine z_bipush (v := 45) Z dX7_readsCommand_38 (by decide +kernel) ?_
        refine z_callVu (rest := []) Z dX7_readsCommand_40 6 0 _ _ rfl rfl rfl (zc_X7_takes_t l D ct (h0) (aS) (aF) (aX) (th) (((tx ta : Nat) : Int)) (sv) (ln) (ta) (f1) (l1) (f2) (l2) (tx) (45) (by first | assumption | omega) (by first | assumption | omega) (by first | assumption | omega) (by decide) (by first | assumption | omega)) (cwV 1 Z.1.2.2.2.2 gX7_readsCommand_X7_takes rfl rfl rfl (by decide +kernel) ⟨Nat.le_of_ble_eq_true rfl, Nat.le_of_ble_eq_true rfl⟩) rfl (Nat.le_of_ble_eq_true rfl) ⟨Nat.le_of_ble_eq_true rfl, Nat.le_of_ble_eq_true rfl⟩ [true, true] [zO h0 6 [zi th, .ref aS, zi ((sv : Nat) : Int), .ref aF, .ref aX, zi ((ln : Nat) : Int), zi ((ta + 1 : Nat) : Int), zi ((tx ta : Nat) : Int), zi ((f1 : Nat) : Int), zi ((l1 : Nat) : Int), zi ((f2 : Nat) : Int), zi ((l2 : Nat) : Int)], zAI ct aX 80 (zN tx)] [zi (zb (decide (0 = 0)))] rfl rfl rfl rfl ?_
        refine z_ifb_eq Z 50 dX7_readsCommand_43 (by decide) (fun h43 => ?_) (fun h43 => ?_)
        · have h43 := of_decide_eq_false h43
          exfalso; first | contradiction | omega
        · have h43 := of_decide_eq_true h43
          refine z_iconst (v := 1) Z dX7_readsCommand_46 rfl ?_
          refine z_goto Z 51 dX7_readsCommand_47 (by decide) ?_
          refine z_istore_n Z dX7_readsCommand_51 [(1, zi 1), (0, .ref h0)] (by decide) rfl ?_
          refine z_eqs [zO h0 6 [zi th, .ref aS, zi ((sv : Nat) : Int), .ref aF, .ref aX, zi ((ln : Nat) : Int), zi ((rc1 tx ln ta : Nat) : Int), zi ((tx ta : Nat) : Int), zi ((f1 : Nat) : Int), zi ((l1 : Nat) : Int), zi ((f2 : Nat) : Int), zi ((l2 : Nat) : Int)], zAI ct aX 80 (zN tx)] _ _ (by rw [show rc1 tx ln ta = (ta + 1) from by omega]) rfl rfl ?_
          refine z_aload_n Z dX7_readsCommand_52 1 rfl ?_
          refine z_aload_n Z dX7_readsCommand_53 1 rfl ?_
          refine z_get Z dX7_readsCommand_54 zin_X7_readsCommand_X7 0 6 rfl rfl (by decide) zlk_X7_readsCommand_108 rfl ?_
          refine z_put (ty := .int) Z dX7_readsCommand_57 zin_X7_readsCommand_X7 tyX7 tyX7_ok nmX7 0 8 [zO h0 6 [zi th, .ref aS, zi ((sv : Nat) : Int), .ref aF, .ref aX, zi ((ln : Nat) : Int), zi ((rc1 tx ln ta : Nat) : Int), zi ((tx ta : Nat) : Int), zi ((rc1 tx ln ta : Nat) : Int), zi ((l1 : Nat) : Int), zi ((f2 : Nat) : Int), zi ((l2 : Nat) : Int)], zAI ct aX 80 (zN tx)] rfl rfl (by decide) zlk_X7_readsCommand_117 rfl (by decide +kernel) rfl rfl (Nat.le_of_ble_eq_true rfl) rfl ?_
          refine z_aload_n Z dX7_readsCommand_60 1 rfl ?_
          refine z_aload_n Z dX7_readsCommand_61 1 rfl ?_
          have hn9 := rnF_le tx ln (rc1 tx ln ta)
          have hn7 := rc1_le tx hta
          refine z_callVu (rest := [.ref h0]) Z dX7_readsCommand_62 6 0 _ _ rfl rfl rfl (zc_X7_readsName l D ct (h0) (aS) (aF) (aX) (th) (((tx ta : Nat) : Int)) (sv) (ln) (rc1 tx ln ta) (rc1 tx ln ta) (l1) (f2) (l2) (tx) (by first | assumption | omega) (by first | assumption | omega) (by first | assumption | omega)) (cwV 0 Z.1.2.2.2.2 gX7_readsCommand_X7_readsName rfl rfl rfl (by decide +kernel) ⟨Nat.le_of_ble_eq_true rfl, Nat.le_of_ble_eq_true rfl⟩) rfl (Nat.le_of_ble_eq_true rfl) ⟨Nat.le_of_ble_eq_true rfl, Nat.le_of_ble_eq_true rfl⟩ [true, true] [zO h0 6 [zi th, .ref aS, zi ((sv : Nat) : Int), .ref aF, .ref aX, zi ((ln : Nat) : Int), zi (((rc1 tx ln ta) + rnF tx ln (rc1 tx ln ta) : Nat) : Int), zi ((tx ta : Nat) : Int), zi (((rc1 tx ln ta) : Nat) : Int), zi ((l1 : Nat) : Int), zi ((f2 : Nat) : Int), zi ((l2 : Nat) : Int)], zAI ct aX 80 (zN tx)] [zi ((rnF tx ln (rc1 tx ln ta) : Nat) : Int), .ref h0] rfl rfl rfl rfl ?_
          refine z_put (ty := .int) Z dX7_readsCommand_65 zin_X7_readsCommand_X7 tyX7 tyX7_ok nmX7 0 9 [zO h0 6 [zi th, .ref aS, zi ((sv : Nat) : Int), .ref aF, .ref aX, zi ((ln : Nat) : Int), zi (((rc1 tx ln ta) + rnF tx ln (rc1 tx ln ta) : Nat) : Int), zi ((tx ta : Nat) : Int), zi (((rc1 tx ln ta) : Nat) : Int), zi ((rnF tx ln (rc1 tx ln ta) : Nat) : Int), zi ((f2 : Nat) : Int), zi ((l2 : Nat) : Int)], zAI ct aX 80 (zN tx)] rfl rfl (by decide) zlk_X7_readsCommand_124 rfl (by decide +kernel) rfl rfl (Nat.le_of_ble_eq_true rfl) rfl ?_
          have hn8 := rcE_le tx hta
          refine z_eqs [zO h0 6 [zi th, .ref aS, zi ((sv : Nat) : Int), .ref aF, .ref aX, zi ((ln : Nat) : Int), zi ((rcE tx ln ta : Nat) : Int), zi ((tx ta : Nat) : Int), zi (((rc1 tx ln ta) : Nat) : Int), zi ((rnF tx ln (rc1 tx ln ta) : Nat) : Int), zi ((f2 : Nat) : Int), zi ((l2 : Nat) : Int)], zAI ct aX 80 (zN tx)] _ _ (rfl) rfl rfl ?_
          refine z_iload_n Z dX7_readsCommand_68 0 rfl ?_
          refine z_if_ne Z 79 dX7_readsCommand_69 (by decide) (by omega) (fun h69 => ?_) (fun h69 => ?_)
          · refine z_iload_n Z dX7_readsCommand_79 0 rfl ?_
            refine z_if_eq Z 94 dX7_readsCommand_80 (by decide) (by omega) (fun h80 => ?_) (fun h80 => ?_)
            · exfalso; first | contradiction | omega
            · refine z_aload_n Z dX7_readsCommand_83 1 rfl ?_
              refine z_get Z dX7_readsCommand_84 zin_X7_readsCommand_X7 0 9 rfl rfl (by decide) zlk_X7_readsCommand_124 rfl ?_
              refine z_if_le Z 94 dX7_readsCommand_87 (by decide) (by omega) (fun h87 => ?_) (fun h87 => ?_)
              · refine z_iconst (v := 0) Z dX7_readsCommand_94 rfl ?_
                refine z_eqs [zO h0 6 [zi th, .ref aS, zi ((sv : Nat) : Int), .ref aF, .ref aX, zi ((ln : Nat) : Int), zi (((rcP tx ln ta f2 l2).1 : Nat) : Int), zi ((rcP tx ln ta f2 l2).2.1), zi (((rcP tx ln ta f2 l2).2.2.1 : Nat) : Int), zi (((rcP tx ln ta f2 l2).2.2.2.1 : Nat) : Int), zi (((rcP tx ln ta f2 l2).2.2.2.2.1 : Nat) : Int), zi (((rcP tx ln ta f2 l2).2.2.2.2.2 : Nat) : Int)], zAI ct aX 80 (zN tx)] _ [zi (zb (decide (rcB tx ln ta)))] (by simp only [hw9]) rfl (congrArg (fun z => [zi z]) (zb_np _ (fun z => absurd (hb9.mp z) (by omega)))) ?_
                exact hR _ _ () trivial dX7_readsCommand_95
              · refine z_iconst (v := 1) Z dX7_readsCommand_90 rfl ?_
                refine z_goto Z 95 dX7_readsCommand_91 (by decide) ?_
                refine z_eqs [zO h0 6 [zi th, .ref aS, zi ((sv : Nat) : Int), .ref aF, .ref aX, zi ((ln : Nat) : Int), zi (((rcP tx ln ta f2 l2).1 : Nat) : Int), zi ((rcP tx ln ta f2 l2).2.1), zi (((rcP tx ln ta f2 l2).2.2.1 : Nat) : Int), zi (((rcP tx ln ta f2 l2).2.2.2.1 : Nat) : Int), zi (((rcP tx ln ta f2 l2).2.2.2.2.1 : Nat) : Int), zi (((rcP tx ln ta f2 l2).2.2.2.2.2 : Nat) : Int)], zAI ct aX 80 (zN tx)] _ [zi (zb (decide (rcB tx ln ta)))] (by simp only [hw9]) rfl (congrArg (fun z => [zi z]) (zb_p _ (hb9.mpr (by omega)))) ?_
                exact hR _ _ () trivial dX7_readsCommand_95
          · exfalso; first | contradiction | omega
  · refine z_aload_n Z dX7_readsCommand_0 0 rfl ?_
    refine z_aload_n Z dX7_readsCommand_1 0 rfl ?_
    refine z_get Z dX7_readsCommand_2 zin_X7_readsCommand_X7 0 6 rfl rfl (by decide) zlk_X7_readsCommand_108 rfl ?_
    refine z_aload_n Z dX7_readsCommand_5 0 rfl ?_
    refine z_get Z dX7_readsCommand_6 zin_X7_readsCommand_X7 0 5 rfl rfl (by decide) zlk_X7_readsCommand_65 rfl ?_
    refine z_icmp_ge Z 24 dX7_readsCommand_9 (by decide) (by omega) (by omega) (fun h9 => ?_) (fun h9 => ?_)
    · refine z_iconst (v := 0) Z dX7_readsCommand_24 rfl ?_
      refine z_put (ty := .int) Z dX7_readsCommand_25 zin_X7_readsCommand_X7 tyX7 tyX7_ok nmX7 0 7 [zO h0 6 [zi th, .ref aS, zi ((sv : Nat) : Int), .ref aF, .ref aX, zi ((ln : Nat) : Int), zi ((ta : Nat) : Int), zi 0, zi ((f1 : Nat) : Int), zi ((l1 : Nat) : Int), zi ((f2 : Nat) : Int), zi ((l2 : Nat) : Int)], zAI ct aX 80 (zN tx)] rfl rfl (by decide) zlk_X7_readsCommand_111 rfl (by decide +kernel) rfl rfl (Nat.le_of_ble_eq_true rfl) rfl ?_
      refine z_aload_n Z dX7_readsCommand_28 0 rfl ?_
      refine z_bipush (v := 43) Z dX7_readsCommand_29 (by decide +kernel) ?_
      refine z_callVu (rest := []) Z dX7_readsCommand_31 6 0 _ _ rfl rfl rfl (zc_X7_takes_f l D ct (h0) (aS) (aF) (aX) (th) (0) (sv) (ln) (ta) (f1) (l1) (f2) (l2) (tx) (43) (by first | assumption | omega) (by first | assumption | omega) (by first | assumption | omega) (by decide) (by first | assumption | omega)) (cwV 1 Z.1.2.2.2.2 gX7_readsCommand_X7_takes rfl rfl rfl (by decide +kernel) ⟨Nat.le_of_ble_eq_true rfl, Nat.le_of_ble_eq_true rfl⟩) rfl (Nat.le_of_ble_eq_true rfl) ⟨Nat.le_of_ble_eq_true rfl, Nat.le_of_ble_eq_true rfl⟩ [true, true] [zO h0 6 [zi th, .ref aS, zi ((sv : Nat) : Int), .ref aF, .ref aX, zi ((ln : Nat) : Int), zi ((ta : Nat) : Int), zi 0, zi ((f1 : Nat) : Int), zi ((l1 : Nat) : Int), zi ((f2 : Nat) : Int), zi ((l2 : Nat) : Int)], zAI ct aX 80 (zN tx)] [zi (zb (decide (1 = 0)))] rfl rfl rfl rfl ?_
      refine z_ifb_ne Z 46 dX7_readsCommand_34 (by decide) (fun h34 => ?_) (fun h34 => ?_)
      · have h34 := of_decide_eq_true h34
        exfalso; first | contradiction | omega
      · have h34 := of_decide_eq_false h34
        refine z_aload_n Z dX7_readsCommand_37 0 rfl ?_
        refine z_bipush (v := 45) Z dX7_readsCommand_38 (by decide +kernel) ?_
        refine z_callVu (rest := []) Z dX7_readsCommand_40 6 0 _ _ rfl rfl rfl (zc_X7_takes_f l D ct (h0) (aS) (aF) (aX) (th) (0) (sv) (ln) (ta) (f1) (l1) (f2) (l2) (tx) (45) (by first | assumption | omega) (by first | assumption | omega) (by first | assumption | omega) (by decide) (by first | assumption | omega)) (cwV 1 Z.1.2.2.2.2 gX7_readsCommand_X7_takes rfl rfl rfl (by decide +kernel) ⟨Nat.le_of_ble_eq_true rfl, Nat.le_of_ble_eq_true rfl⟩) rfl (Nat.le_of_ble_eq_true rfl) ⟨Nat.le_of_ble_eq_true rfl, Nat.le_of_ble_eq_true rfl⟩ [true, true] [zO h0 6 [zi th, .ref aS, zi ((sv : Nat) : Int), .ref aF, .ref aX, zi ((ln : Nat) : Int), zi ((ta : Nat) : Int), zi 0, zi ((f1 : Nat) : Int), zi ((l1 : Nat) : Int), zi ((f2 : Nat) : Int), zi ((l2 : Nat) : Int)], zAI ct aX 80 (zN tx)] [zi (zb (decide (1 = 0)))] rfl rfl rfl rfl ?_
        refine z_ifb_eq Z 50 dX7_readsCommand_43 (by decide) (fun h43 => ?_) (fun h43 => ?_)
        · have h43 := of_decide_eq_false h43
          refine z_iconst (v := 0) Z dX7_readsCommand_50 rfl ?_
          refine z_istore_n Z dX7_readsCommand_51 [(1, zi 0), (0, .ref h0)] (by decide) rfl ?_
          refine z_eqs [zO h0 6 [zi th, .ref aS, zi ((sv : Nat) : Int), .ref aF, .ref aX, zi ((ln : Nat) : Int), zi ((rc1 tx ln ta : Nat) : Int), zi 0, zi ((f1 : Nat) : Int), zi ((l1 : Nat) : Int), zi ((f2 : Nat) : Int), zi ((l2 : Nat) : Int)], zAI ct aX 80 (zN tx)] _ _ (by rw [show rc1 tx ln ta = ta from by omega]) rfl rfl ?_
          refine z_aload_n Z dX7_readsCommand_52 1 rfl ?_
          refine z_aload_n Z dX7_readsCommand_53 1 rfl ?_
          refine z_get Z dX7_readsCommand_54 zin_X7_readsCommand_X7 0 6 rfl rfl (by decide) zlk_X7_readsCommand_108 rfl ?_
          refine z_put (ty := .int) Z dX7_readsCommand_57 zin_X7_readsCommand_X7 tyX7 tyX7_ok nmX7 0 8 [zO h0 6 [zi th, .ref aS, zi ((sv : Nat) : Int), .ref aF, .ref aX, zi ((ln : Nat) : Int), zi ((rc1 tx ln ta : Nat) : Int), zi 0, zi ((rc1 tx ln ta : Nat) : Int), zi ((l1 : Nat) : Int), zi ((f2 : Nat) : Int), zi ((l2 : Nat) : Int)], zAI ct aX 80 (zN tx)] rfl rfl (by decide) zlk_X7_readsCommand_117 rfl (by decide +kernel) rfl rfl (Nat.le_of_ble_eq_true rfl) rfl ?_
          refine z_aload_n Z dX7_readsCommand_60 1 rfl ?_
          refine z_aload_n Z dX7_readsCommand_61 1 rfl ?_
          have hn9 := rnF_le tx ln (rc1 tx ln ta)
          have hn7 := rc1_le tx hta
          refine z_callVu (rest := [.ref h0]) Z dX7_readsCommand_62 6 0 _ _ rfl rfl rfl (zc_X7_readsName l D ct (h0) (aS) (aF) (aX) (th) (0) (sv) (ln) (rc1 tx ln ta) (rc1 tx ln ta) (l1) (f2) (l2) (tx) (by first | assumption | omega) (by first | assumption | omega) (by first | assumption | omega)) (cwV 0 Z.1.2.2.2.2 gX7_readsCommand_X7_readsName rfl rfl rfl (by decide +kernel) ⟨Nat.le_of_ble_eq_true rfl, Nat.le_of_ble_eq_true rfl⟩) rfl (Nat.le_of_ble_eq_true rfl) ⟨Nat.le_of_ble_eq_true rfl, Nat.le_of_ble_eq_true rfl⟩ [true, true] [zO h0 6 [zi th, .ref aS, zi ((sv : Nat) : Int), .ref aF, .ref aX, zi ((ln : Nat) : Int), zi (((rc1 tx ln ta) + rnF tx ln (rc1 tx ln ta) : Nat) : Int), zi 0, zi (((rc1 tx ln ta) : Nat) : Int), zi ((l1 : Nat) : Int), zi ((f2 : Nat) : Int), zi ((l2 : Nat) : Int)], zAI ct aX 80 (zN tx)] [zi ((rnF tx ln (rc1 tx ln ta) : Nat) : Int), .ref h0] rfl rfl rfl rfl ?_
          refine z_put (ty := .int) Z dX7_readsCommand_65 zin_X7_readsCommand_X7 tyX7 tyX7_ok nmX7 0 9 [zO h0 6 [zi th, .ref aS, zi ((sv : Nat) : Int), .ref aF, .ref aX, zi ((ln : Nat) : Int), zi (((rc1 tx ln ta) + rnF tx ln (rc1 tx ln ta) : Nat) : Int), zi 0, zi (((rc1 tx ln ta) : Nat) : Int), zi ((rnF tx ln (rc1 tx ln ta) : Nat) : Int), zi ((f2 : Nat) : Int), zi ((l2 : Nat) : Int)], zAI ct aX 80 (zN tx)] rfl rfl (by decide) zlk_X7_readsCommand_124 rfl (by decide +kernel) rfl rfl (Nat.le_of_ble_eq_true rfl) rfl ?_
          have hn8 := rcE_le tx hta
          refine z_eqs [zO h0 6 [zi th, .ref aS, zi ((sv : Nat) : Int), .ref aF, .ref aX, zi ((ln : Nat) : Int), zi ((rcE tx ln ta : Nat) : Int), zi 0, zi (((rc1 tx ln ta) : Nat) : Int), zi ((rnF tx ln (rc1 tx ln ta) : Nat) : Int), zi ((f2 : Nat) : Int), zi ((l2 : Nat) : Int)], zAI ct aX 80 (zN tx)] _ _ (rfl) rfl rfl ?_
          refine z_iload_n Z dX7_readsCommand_68 0 rfl ?_
          refine z_if_ne Z 79 dX7_readsCommand_69 (by decide) (by omega) (fun h69 => ?_) (fun h69 => ?_)
          · exfalso; first | contradiction | omega
          · refine z_aload_n Z dX7_readsCommand_72 1 rfl ?_
            refine z_get Z dX7_readsCommand_73 zin_X7_readsCommand_X7 0 9 rfl rfl (by decide) zlk_X7_readsCommand_124 rfl ?_
            refine z_if_ne Z 96 dX7_readsCommand_76 (by decide) (by omega) (fun h76 => ?_) (fun h76 => ?_)
            · exfalso; first | contradiction | omega
            · refine z_iload_n Z dX7_readsCommand_79 0 rfl ?_
              refine z_if_eq Z 94 dX7_readsCommand_80 (by decide) (by omega) (fun h80 => ?_) (fun h80 => ?_)
              · refine z_iconst (v := 0) Z dX7_readsCommand_94 rfl ?_
                refine z_eqs [zO h0 6 [zi th, .ref aS, zi ((sv : Nat) : Int), .ref aF, .ref aX, zi ((ln : Nat) : Int), zi (((rcP tx ln ta f2 l2).1 : Nat) : Int), zi ((rcP tx ln ta f2 l2).2.1), zi (((rcP tx ln ta f2 l2).2.2.1 : Nat) : Int), zi (((rcP tx ln ta f2 l2).2.2.2.1 : Nat) : Int), zi (((rcP tx ln ta f2 l2).2.2.2.2.1 : Nat) : Int), zi (((rcP tx ln ta f2 l2).2.2.2.2.2 : Nat) : Int)], zAI ct aX 80 (zN tx)] _ [zi (zb (decide (rcB tx ln ta)))] (by simp only [hw9]) rfl (congrArg (fun z => [zi z]) (zb_np _ (fun z => absurd (hb9.mp z) (by omega)))) ?_
                exact hR _ _ () trivial dX7_readsCommand_95
              · exfalso; first | contradiction | omega
        · have h43 := of_decide_eq_true h43
          exfalso; first | contradiction | omega
    · exfalso; first | contradiction | omega
  · refine z_aload_n Z dX7_readsCommand_0 0 rfl ?_
    refine z_aload_n Z dX7_readsCommand_1 0 rfl ?_
    refine z_get Z dX7_readsCommand_2 zin_X7_readsCommand_X7 0 6 rfl rfl (by decide) zlk_X7_readsCommand_108 rfl ?_
    refine z_aload_n Z dX7_readsCommand_5 0 rfl ?_
    refine z_get Z dX7_readsCommand_6 zin_X7_readsCommand_X7 0 5 rfl rfl (by decide) zlk_X7_readsCommand_65 rfl ?_
    refine z_icmp_ge Z 24 dX7_readsCommand_9 (by decide) (by omega) (by omega) (fun h9 => ?_) (fun h9 => ?_)
    · exfalso; first | contradiction | omega
    · refine z_aload_n Z dX7_readsCommand_12 0 rfl ?_
      refine z_get Z dX7_readsCommand_13 zin_X7_readsCommand_X7 0 4 rfl rfl (by decide) zlk_X7_readsCommand_17 rfl ?_
      refine z_aload_n Z dX7_readsCommand_16 0 rfl ?_
      refine z_get Z dX7_readsCommand_17 zin_X7_readsCommand_X7 0 6 rfl rfl (by decide) zlk_X7_readsCommand_108 rfl ?_
      refine z_ialdN Z dX7_readsCommand_20 1 (ta) rfl (rfl) ⟨by omega, by omega⟩ ?_
      have he3 := ht (ta) (by omega)
      refine z_goto Z 25 dX7_readsCommand_21 (by decide) ?_
      refine z_put (ty := .int) Z dX7_readsCommand_25 zin_X7_readsCommand_X7 tyX7 tyX7_ok nmX7 0 7 [zO h0 6 [zi th, .ref aS, zi ((sv : Nat) : Int), .ref aF, .ref aX, zi ((ln : Nat) : Int), zi ((ta : Nat) : Int), zi ((tx ta : Nat) : Int), zi ((f1 : Nat) : Int), zi ((l1 : Nat) : Int), zi ((f2 : Nat) : Int), zi ((l2 : Nat) : Int)], zAI ct aX 80 (zN tx)] rfl rfl (by decide) zlk_X7_readsCommand_111 rfl (by decide +kernel) rfl rfl (Nat.le_of_ble_eq_true rfl) rfl ?_
      refine z_aload_n Z dX7_readsCommand_28 0 rfl ?_
      refine z_bipush (v := 43) Z dX7_readsCommand_29 (by decide +kernel) ?_
      refine z_callVu (rest := []) Z dX7_readsCommand_31 6 0 _ _ rfl rfl rfl (zc_X7_takes_f l D ct (h0) (aS) (aF) (aX) (th) (((tx ta : Nat) : Int)) (sv) (ln) (ta) (f1) (l1) (f2) (l2) (tx) (43) (by first | assumption | omega) (by first | assumption | omega) (by first | assumption | omega) (by decide) (by first | assumption | omega)) (cwV 1 Z.1.2.2.2.2 gX7_readsCommand_X7_takes rfl rfl rfl (by decide +kernel) ⟨Nat.le_of_ble_eq_true rfl, Nat.le_of_ble_eq_true rfl⟩) rfl (Nat.le_of_ble_eq_true rfl) ⟨Nat.le_of_ble_eq_true rfl, Nat.le_of_ble_eq_true rfl⟩ [true, true] [zO h0 6 [zi th, .ref aS, zi ((sv : Nat) : Int), .ref aF, .ref aX, zi ((ln : Nat) : Int), zi ((ta : Nat) : Int), zi ((tx ta : Nat) : Int), zi ((f1 : Nat) : Int), zi ((l1 : Nat) : Int), zi ((f2 : Nat) : Int), zi ((l2 : Nat) : Int)], zAI ct aX 80 (zN tx)] [zi (zb (decide (1 = 0)))] rfl rfl rfl rfl ?_
      refine z_ifb_ne Z 46 dX7_readsCommand_34 (by decide) (fun h34 => ?_) (fun h34 => ?_)
      · have h34 := of_decide_eq_true h34
        exfalso; first | contradiction | omega
      · have h34 := of_decide_eq_false h34
        refine z_aload_n Z dX7_readsCommand_37 0 rfl ?_
        refine z_bipush (v := 45) Z dX7_readsCommand_38 (by decide +kernel) ?_
        refine z_callVu (rest := []) Z dX7_readsCommand_40 6 0 _ _ rfl rfl rfl (zc_X7_takes_f l D ct (h0) (aS) (aF) (aX) (th) (((tx ta : Nat) : Int)) (sv) (ln) (ta) (f1) (l1) (f2) (l2) (tx) (45) (by first | assumption | omega) (by first | assumption | omega) (by first | assumption | omega) (by decide) (by first | assumption | omega)) (cwV 1 Z.1.2.2.2.2 gX7_readsCommand_X7_takes rfl rfl rfl (by decide +kernel) ⟨Nat.le_of_ble_eq_true rfl, Nat.le_of_ble_eq_true rfl⟩) rfl (Nat.le_of_ble_eq_true rfl) ⟨Nat.le_of_ble_eq_true rfl, Nat.le_of_ble_eq_true rfl⟩ [true, true] [zO h0 6 [zi th, .ref aS, zi ((sv : Nat) : Int), .ref aF, .ref aX, zi ((ln : Nat) : Int), zi ((ta : Nat) : Int), zi ((tx ta : Nat) : Int), zi ((f1 : Nat) : Int), zi ((l1 : Nat) : Int), zi ((f2 : Nat) : Int), zi ((l2 : Nat) : Int)], zAI ct aX 80 (zN tx)] [zi (zb (decide (1 = 0)))] rfl rfl rfl rfl ?_
        refine z_ifb_eq Z 50 dX7_readsCommand_43 (by decide) (fun h43 => ?_) (fun h43 => ?_)
        · have h43 := of_decide_eq_false h43
          refine z_iconst (v := 0) Z dX7_readsCommand_50 rfl ?_
          refine z_istore_n Z dX7_readsCommand_51 [(1, zi 0), (0, .ref h0)] (by decide) rfl ?_
          refine z_eqs [zO h0 6 [zi th, .ref aS, zi ((sv : Nat) : Int), .ref aF, .ref aX, zi ((ln : Nat) : Int), zi ((rc1 tx ln ta : Nat) : Int), zi ((tx ta : Nat) : Int), zi ((f1 : Nat) : Int), zi ((l1 : Nat) : Int), zi ((f2 : Nat) : Int), zi ((l2 : Nat) : Int)], zAI ct aX 80 (zN tx)] _ _ (by rw [show rc1 tx ln ta = ta from by omega]) rfl rfl ?_
          refine z_aload_n Z dX7_readsCommand_52 1 rfl ?_
          refine z_aload_n Z dX7_readsCommand_53 1 rfl ?_
          refine z_get Z dX7_readsCommand_54 zin_X7_readsCommand_X7 0 6 rfl rfl (by decide) zlk_X7_readsCommand_108 rfl ?_
          refine z_put (ty := .int) Z dX7_readsCommand_57 zin_X7_readsCommand_X7 tyX7 tyX7_ok nmX7 0 8 [zO h0 6 [zi th, .ref aS, zi ((sv : Nat) : Int), .ref aF, .ref aX, zi ((ln : Nat) : Int), zi ((rc1 tx ln ta : Nat) : Int), zi ((tx ta : Nat) : Int), zi ((rc1 tx ln ta : Nat) : Int), zi ((l1 : Nat) : Int), zi ((f2 : Nat) : Int), zi ((l2 : Nat) : Int)], zAI ct aX 80 (zN tx)] rfl rfl (by decide) zlk_X7_readsCommand_117 rfl (by decide +kernel) rfl rfl (Nat.le_of_ble_eq_true rfl) rfl ?_
          refine z_aload_n Z dX7_readsCommand_60 1 rfl ?_
          refine z_aload_n Z dX7_readsCommand_61 1 rfl ?_
          have hn9 := rnF_le tx ln (rc1 tx ln ta)
          have hn7 := rc1_le tx hta
          refine z_callVu (rest := [.ref h0]) Z dX7_readsCommand_62 6 0 _ _ rfl rfl rfl (zc_X7_readsName l D ct (h0) (aS) (aF) (aX) (th) (((tx ta : Nat) : Int)) (sv) (ln) (rc1 tx ln ta) (rc1 tx ln ta) (l1) (f2) (l2) (tx) (by first | assumption | omega) (by first | assumption | omega) (by first | assumption | omega)) (cwV 0 Z.1.2.2.2.2 gX7_readsCommand_X7_readsName rfl rfl rfl (by decide +kernel) ⟨Nat.le_of_ble_eq_true rfl, Nat.le_of_ble_eq_true rfl⟩) rfl (Nat.le_of_ble_eq_true rfl) ⟨Nat.le_of_ble_eq_true rfl, Nat.le_of_ble_eq_true rfl⟩ [true, true] [zO h0 6 [zi th, .ref aS, zi ((sv : Nat) : Int), .ref aF, .ref aX, zi ((ln : Nat) : Int), zi (((rc1 tx ln ta) + rnF tx ln (rc1 tx ln ta) : Nat) : Int), zi ((tx ta : Nat) : Int), zi (((rc1 tx ln ta) : Nat) : Int), zi ((l1 : Nat) : Int), zi ((f2 : Nat) : Int), zi ((l2 : Nat) : Int)], zAI ct aX 80 (zN tx)] [zi ((rnF tx ln (rc1 tx ln ta) : Nat) : Int), .ref h0] rfl rfl rfl rfl ?_
          refine z_put (ty := .int) Z dX7_readsCommand_65 zin_X7_readsCommand_X7 tyX7 tyX7_ok nmX7 0 9 [zO h0 6 [zi th, .ref aS, zi ((sv : Nat) : Int), .ref aF, .ref aX, zi ((ln : Nat) : Int), zi (((rc1 tx ln ta) + rnF tx ln (rc1 tx ln ta) : Nat) : Int), zi ((tx ta : Nat) : Int), zi (((rc1 tx ln ta) : Nat) : Int), zi ((rnF tx ln (rc1 tx ln ta) : Nat) : Int), zi ((f2 : Nat) : Int), zi ((l2 : Nat) : Int)], zAI ct aX 80 (zN tx)] rfl rfl (by decide) zlk_X7_readsCommand_124 rfl (by decide +kernel) rfl rfl (Nat.le_of_ble_eq_true rfl) rfl ?_
          have hn8 := rcE_le tx hta
          refine z_eqs [zO h0 6 [zi th, .ref aS, zi ((sv : Nat) : Int), .ref aF, .ref aX, zi ((ln : Nat) : Int), zi ((rcE tx ln ta : Nat) : Int), zi ((tx ta : Nat) : Int), zi (((rc1 tx ln ta) : Nat) : Int), zi ((rnF tx ln (rc1 tx ln ta) : Nat) : Int), zi ((f2 : Nat) : Int), zi ((l2 : Nat) : Int)], zAI ct aX 80 (zN tx)] _ _ (rfl) rfl rfl ?_
          refine z_iload_n Z dX7_readsCommand_68 0 rfl ?_
          refine z_if_ne Z 79 dX7_readsCommand_69 (by decide) (by omega) (fun h69 => ?_) (fun h69 => ?_)
          · exfalso; first | contradiction | omega
          · refine z_aload_n Z dX7_readsCommand_72 1 rfl ?_
            refine z_get Z dX7_readsCommand_73 zin_X7_readsCommand_X7 0 9 rfl rfl (by decide) zlk_X7_readsCommand_124 rfl ?_
            refine z_if_ne Z 96 dX7_readsCommand_76 (by decide) (by omega) (fun h76 => ?_) (fun h76 => ?_)
            · exfalso; first | contradiction | omega
            · refine z_iload_n Z dX7_readsCommand_79 0 rfl ?_
              refine z_if_eq Z 94 dX7_readsCommand_80 (by decide) (by omega) (fun h80 => ?_) (fun h80 => ?_)
              · refine z_iconst (v := 0) Z dX7_readsCommand_94 rfl ?_
                refine z_eqs [zO h0 6 [zi th, .ref aS, zi ((sv : Nat) : Int), .ref aF, .ref aX, zi ((ln : Nat) : Int), zi (((rcP tx ln ta f2 l2).1 : Nat) : Int), zi ((rcP tx ln ta f2 l2).2.1), zi (((rcP tx ln ta f2 l2).2.2.1 : Nat) : Int), zi (((rcP tx ln ta f2 l2).2.2.2.1 : Nat) : Int), zi (((rcP tx ln ta f2 l2).2.2.2.2.1 : Nat) : Int), zi (((rcP tx ln ta f2 l2).2.2.2.2.2 : Nat) : Int)], zAI ct aX 80 (zN tx)] _ [zi (zb (decide (rcB tx ln ta)))] (by simp only [hw9]) rfl (congrArg (fun z => [zi z]) (zb_np _ (fun z => absurd (hb9.mp z) (by omega)))) ?_
                exact hR _ _ () trivial dX7_readsCommand_95
              · exfalso; first | contradiction | omega
        · have h43 := of_decide_eq_true h43
          exfalso; first | contradiction | omega
  · refine z_aload_n Z dX7_readsCommand_0 0 rfl ?_
    refine z_aload_n Z dX7_readsCommand_1 0 rfl ?_
    refine z_get Z dX7_readsCommand_2 zin_X7_readsCommand_X7 0 6 rfl rfl (by decide) zlk_X7_readsCommand_108 rfl ?_
    refine z_aload_n Z dX7_readsCommand_5 0 rfl ?_
    refine z_get Z dX7_readsCommand_6 zin_X7_readsCommand_X7 0 5 rfl rfl (by decide) zlk_X7_readsCommand_65 rfl ?_
    refine z_icmp_ge Z 24 dX7_readsCommand_9 (by decide) (by omega) (by omega) (fun h9 => ?_) (fun h9 => ?_)
    · exfalso; first | contradiction | omega
    · refine z_aload_n Z dX7_readsCommand_12 0 rfl ?_
      refine z_get Z dX7_readsCommand_13 zin_X7_readsCommand_X7 0 4 rfl rfl (by decide) zlk_X7_readsCommand_17 rfl ?_
      refine z_aload_n Z dX7_readsCommand_16 0 rfl ?_
      refine z_get Z dX7_readsCommand_17 zin_X7_readsCommand_X7 0 6 rfl rfl (by decide) zlk_X7_readsCommand_108 rfl ?_
      refine z_ialdN Z dX7_readsCommand_20 1 (ta) rfl (rfl) ⟨by omega, by omega⟩ ?_
      have he4 := ht (ta) (by omega)
      refine z_goto Z 25 dX7_readsCommand_21 (by decide) ?_
      refine z_put (ty := .int) Z dX7_readsCommand_25 zin_X7_readsCommand_X7 tyX7 tyX7_ok nmX7 0 7 [zO h0 6 [zi th, .ref aS, zi ((sv : Nat) : Int), .ref aF, .ref aX, zi ((ln : Nat) : Int), zi ((ta : Nat) : Int), zi ((tx ta : Nat) : Int), zi ((f1 : Nat) : Int), zi ((l1 : Nat) : Int), zi ((f2 : Nat) : Int), zi ((l2 : Nat) : Int)], zAI ct aX 80 (zN tx)] rfl rfl (by decide) zlk_X7_readsCommand_111 rfl (by decide +kernel) rfl rfl (Nat.le_of_ble_eq_true rfl) rfl ?_
      refine z_aload_n Z dX7_readsCommand_28 0 rfl ?_
      refine z_bipush (v := 43) Z dX7_readsCommand_29 (by decide +kernel) ?_
      refine z_callVu (rest := []) Z dX7_readsCommand_31 6 0 _ _ rfl rfl rfl (zc_X7_takes_f l D ct (h0) (aS) (aF) (aX) (th) (((tx ta : Nat) : Int)) (sv) (ln) (ta) (f1) (l1) (f2) (l2) (tx) (43) (by first | assumption | omega) (by first | assumption | omega) (by first | assumption | omega) (by decide) (by first | assumption | omega)) (cwV 1 Z.1.2.2.2.2 gX7_readsCommand_X7_takes rfl rfl rfl (by decide +kernel) ⟨Nat.le_of_ble_eq_true rfl, Nat.le_of_ble_eq_true rfl⟩) rfl (Nat.le_of_ble_eq_true rfl) ⟨Nat.le_of_ble_eq_true rfl, Nat.le_of_ble_eq_true rfl⟩ [true, true] [zO h0 6 [zi th, .ref aS, zi ((sv : Nat) : Int), .ref aF, .ref aX, zi ((ln : Nat) : Int), zi ((ta : Nat) : Int), zi ((tx ta : Nat) : Int), zi ((f1 : Nat) : Int), zi ((l1 : Nat) : Int), zi ((f2 : Nat) : Int), zi ((l2 : Nat) : Int)], zAI ct aX 80 (zN tx)] [zi (zb (decide (1 = 0)))] rfl rfl rfl rfl ?_
      refine z_ifb_ne Z 46 dX7_readsCommand_34 (by decide) (fun h34 => ?_) (fun h34 => ?_)
      · have h34 := of_decide_eq_true h34
        exfalso; first | contradiction | omega
      · have h34 := of_decide_eq_false h34
        refine z_aload_n Z dX7_readsCommand_37 0 rfl ?_
        refine z_bipush (v := 45) Z dX7_readsCommand_38 (by decide +kernel) ?_
        refine z_callVu (rest := []) Z dX7_readsCommand_40 6 0 _ _ rfl rfl rfl (zc_X7_takes_f l D ct (h0) (aS) (aF) (aX) (th) (((tx ta : Nat) : Int)) (sv) (ln) (ta) (f1) (l1) (f2) (l2) (tx) (45) (by first | assumption | omega) (by first | assumption | omega) (by first | assumption | omega) (by decide) (by first | assumption | omega)) (cwV 1 Z.1.2.2.2.2 gX7_readsCommand_X7_takes rfl rfl rfl (by decide +kernel) ⟨Nat.le_of_ble_eq_true rfl, Nat.le_of_ble_eq_true rfl⟩) rfl (Nat.le_of_ble_eq_true rfl) ⟨Nat.le_of_ble_eq_true rfl, Nat.le_of_ble_eq_true rfl⟩ [true, true] [zO h0 6 [zi th, .ref aS, zi ((sv : Nat) : Int), .ref aF, .ref aX, zi ((ln : Nat) : Int), zi ((ta : Nat) : Int), zi ((tx ta : Nat) : Int), zi ((f1 : Nat) : Int), zi ((l1 : Nat) : Int), zi ((f2 : Nat) : Int), zi ((l2 : Nat) : Int)], zAI ct aX 80 (zN tx)] [zi (zb (decide (1 = 0)))] rfl rfl rfl rfl ?_
        refine z_ifb_eq Z 50 dX7_readsCommand_43 (by decide) (fun h43 => ?_) (fun h43 => ?_)
        · have h43 := of_decide_eq_false h43
          refine z_iconst (v := 0) Z dX7_readsCommand_50 rfl ?_
          refine z_istore_n Z dX7_readsCommand_51 [(1, zi 0), (0, .ref h0)] (by decide) rfl ?_
          refine z_eqs [zO h0 6 [zi th, .ref aS, zi ((sv : Nat) : Int), .ref aF, .ref aX, zi ((ln : Nat) : Int), zi ((rc1 tx ln ta : Nat) : Int), zi ((tx ta : Nat) : Int), zi ((f1 : Nat) : Int), zi ((l1 : Nat) : Int), zi ((f2 : Nat) : Int), zi ((l2 : Nat) : Int)], zAI ct aX 80 (zN tx)] _ _ (by rw [show rc1 tx ln ta = ta from by omega]) rfl rfl ?_
          refine z_aload_n Z dX7_readsCommand_52 1 rfl ?_
          refine z_aload_n Z dX7_readsCommand_53 1 rfl ?_
          refine z_get Z dX7_readsCommand_54 zin_X7_readsCommand_X7 0 6 rfl rfl (by decide) zlk_X7_readsCommand_108 rfl ?_
          refine z_put (ty := .int) Z dX7_readsCommand_57 zin_X7_readsCommand_X7 tyX7 tyX7_ok nmX7 0 8 [zO h0 6 [zi th, .ref aS, zi ((sv : Nat) : Int), .ref aF, .ref aX, zi ((ln : Nat) : Int), zi ((rc1 tx ln ta : Nat) : Int), zi ((tx ta : Nat) : Int), zi ((rc1 tx ln ta : Nat) : Int), zi ((l1 : Nat) : Int), zi ((f2 : Nat) : Int), zi ((l2 : Nat) : Int)], zAI ct aX 80 (zN tx)] rfl rfl (by decide) zlk_X7_readsCommand_117 rfl (by decide +kernel) rfl rfl (Nat.le_of_ble_eq_true rfl) rfl ?_
          refine z_aload_n Z dX7_readsCommand_60 1 rfl ?_
          refine z_aload_n Z dX7_readsCommand_61 1 rfl ?_
          have hn9 := rnF_le tx ln (rc1 tx ln ta)
          have hn7 := rc1_le tx hta
          refine z_callVu (rest := [.ref h0]) Z dX7_readsCommand_62 6 0 _ _ rfl rfl rfl (zc_X7_readsName l D ct (h0) (aS) (aF) (aX) (th) (((tx ta : Nat) : Int)) (sv) (ln) (rc1 tx ln ta) (rc1 tx ln ta) (l1) (f2) (l2) (tx) (by first | assumption | omega) (by first | assumption | omega) (by first | assumption | omega)) (cwV 0 Z.1.2.2.2.2 gX7_readsCommand_X7_readsName rfl rfl rfl (by decide +kernel) ⟨Nat.le_of_ble_eq_true rfl, Nat.le_of_ble_eq_true rfl⟩) rfl (Nat.le_of_ble_eq_true rfl) ⟨Nat.le_of_ble_eq_true rfl, Nat.le_of_ble_eq_true rfl⟩ [true, true] [zO h0 6 [zi th, .ref aS, zi ((sv : Nat) : Int), .ref aF, .ref aX, zi ((ln : Nat) : Int), zi (((rc1 tx ln ta) + rnF tx ln (rc1 tx ln ta) : Nat) : Int), zi ((tx ta : Nat) : Int), zi (((rc1 tx ln ta) : Nat) : Int), zi ((l1 : Nat) : Int), zi ((f2 : Nat) : Int), zi ((l2 : Nat) : Int)], zAI ct aX 80 (zN tx)] [zi ((rnF tx ln (rc1 tx ln ta) : Nat) : Int), .ref h0] rfl rfl rfl rfl ?_
          refine z_put (ty := .int) Z dX7_readsCommand_65 zin_X7_readsCommand_X7 tyX7 tyX7_ok nmX7 0 9 [zO h0 6 [zi th, .ref aS, zi ((sv : Nat) : Int), .ref aF, .ref aX, zi ((ln : Nat) : Int), zi (((rc1 tx ln ta) + rnF tx ln (rc1 tx ln ta) : Nat) : Int), zi ((tx ta : Nat) : Int), zi (((rc1 tx ln ta) : Nat) : Int), zi ((rnF tx ln (rc1 tx ln ta) : Nat) : Int), zi ((f2 : Nat) : Int), zi ((l2 : Nat) : Int)], zAI ct aX 80 (zN tx)] rfl rfl (by decide) zlk_X7_readsCommand_124 rfl (by decide +kernel) rfl rfl (Nat.le_of_ble_eq_true rfl) rfl ?_
          have hn8 := rcE_le tx hta
          refine z_eqs [zO h0 6 [zi th, .ref aS, zi ((sv : Nat) : Int), .ref aF, .ref aX, zi ((ln : Nat) : Int), zi ((rcE tx ln ta : Nat) : Int), zi ((tx ta : Nat) : Int), zi (((rc1 tx ln ta) : Nat) : Int), zi ((rnF tx ln (rc1 tx ln ta) : Nat) : Int), zi ((f2 : Nat) : Int), zi ((l2 : Nat) : Int)], zAI ct aX 80 (zN tx)] _ _ (rfl) rfl rfl ?_
          refine z_iload_n Z dX7_readsCommand_68 0 rfl ?_
          refine z_if_ne Z 79 dX7_readsCommand_69 (by decide) (by omega) (fun h69 => ?_) (fun h69 => ?_)
          · exfalso; first | contradiction | omega
          · refine z_aload_n Z dX7_readsCommand_72 1 rfl ?_
            refine z_get Z dX7_readsCommand_73 zin_X7_readsCommand_X7 0 9 rfl rfl (by decide) zlk_X7_readsCommand_124 rfl ?_
            refine z_if_ne Z 96 dX7_readsCommand_76 (by decide) (by omega) (fun h76 => ?_) (fun h76 => ?_)
            · refine z_aload_n Z dX7_readsCommand_96 1 rfl ?_
              refine z_bipush (v := 61) Z dX7_readsCommand_97 (by decide +kernel) ?_
              refine z_put (ty := .int) Z dX7_readsCommand_99 zin_X7_readsCommand_X7 tyX7 tyX7_ok nmX7 0 7 [zO h0 6 [zi th, .ref aS, zi ((sv : Nat) : Int), .ref aF, .ref aX, zi ((ln : Nat) : Int), zi ((rcE tx ln ta : Nat) : Int), zi 61, zi (((rc1 tx ln ta) : Nat) : Int), zi ((rnF tx ln (rc1 tx ln ta) : Nat) : Int), zi ((f2 : Nat) : Int), zi ((l2 : Nat) : Int)], zAI ct aX 80 (zN tx)] rfl rfl (by decide) zlk_X7_readsCommand_111 rfl (by decide +kernel) rfl rfl (Nat.le_of_ble_eq_true rfl) rfl ?_
              refine z_aload_n Z dX7_readsCommand_102 1 rfl ?_
              refine z_bipush (v := 61) Z dX7_readsCommand_103 (by decide +kernel) ?_
              refine z_eqs [zO h0 6 [zi th, .ref aS, zi ((sv : Nat) : Int), .ref aF, .ref aX, zi ((ln : Nat) : Int), zi ((rcE tx ln ta : Nat) : Int), zi 61, zi ((rc1 tx ln ta : Nat) : Int), zi ((rnF tx ln (rc1 tx ln ta) : Nat) : Int), zi ((f2 : Nat) : Int), zi ((l2 : Nat) : Int)], zAI ct aX 80 (zN tx)] _ [zi 61, .ref h0] (by rw [show (((rc1 tx ln ta) : Nat) : Int) = ((rc1 tx ln ta : Nat) : Int) from by omega]) rfl (rfl) ?_
              refine z_callVu (rest := []) Z dX7_readsCommand_105 6 0 _ _ rfl rfl rfl (zc_X7_takes_t l D ct (h0) (aS) (aF) (aX) (th) (61) (sv) (ln) (rcE tx ln ta) (rc1 tx ln ta) (rnF tx ln (rc1 tx ln ta)) (f2) (l2) (tx) (61) (by first | assumption | omega) (by first | assumption | omega) (by first | assumption | omega) (by decide) (by first | assumption | omega)) (cwV 1 Z.1.2.2.2.2 gX7_readsCommand_X7_takes rfl rfl rfl (by decide +kernel) ⟨Nat.le_of_ble_eq_true rfl, Nat.le_of_ble_eq_true rfl⟩) rfl (Nat.le_of_ble_eq_true rfl) ⟨Nat.le_of_ble_eq_true rfl, Nat.le_of_ble_eq_true rfl⟩ [true, true] [zO h0 6 [zi th, .ref aS, zi ((sv : Nat) : Int), .ref aF, .ref aX, zi ((ln : Nat) : Int), zi (((rcE tx ln ta) + 1 : Nat) : Int), zi 61, zi (((rc1 tx ln ta) : Nat) : Int), zi (((rnF tx ln (rc1 tx ln ta)) : Nat) : Int), zi ((f2 : Nat) : Int), zi ((l2 : Nat) : Int)], zAI ct aX 80 (zN tx)] [zi (zb (decide (0 = 0)))] rfl rfl rfl rfl ?_
              refine z_ifb_ne Z 113 dX7_readsCommand_108 (by decide) (fun h108 => ?_) (fun h108 => ?_)
              · have h108 := of_decide_eq_true h108
                refine z_aload_n Z dX7_readsCommand_113 1 rfl ?_
                refine z_aload_n Z dX7_readsCommand_114 1 rfl ?_
                refine z_get Z dX7_readsCommand_115 zin_X7_readsCommand_X7 0 6 rfl rfl (by decide) zlk_X7_readsCommand_108 rfl ?_
                refine z_put (ty := .int) Z dX7_readsCommand_118 zin_X7_readsCommand_X7 tyX7 tyX7_ok nmX7 0 10 [zO h0 6 [zi th, .ref aS, zi ((sv : Nat) : Int), .ref aF, .ref aX, zi ((ln : Nat) : Int), zi (((rcE tx ln ta) + 1 : Nat) : Int), zi 61, zi (((rc1 tx ln ta) : Nat) : Int), zi (((rnF tx ln (rc1 tx ln ta)) : Nat) : Int), zi (((rcE tx ln ta) + 1 : Nat) : Int), zi ((l2 : Nat) : Int)], zAI ct aX 80 (zN tx)] rfl rfl (by decide) zlk_X7_readsCommand_127 rfl (by decide +kernel) rfl rfl (Nat.le_of_ble_eq_true rfl) rfl ?_
                refine z_aload_n Z dX7_readsCommand_121 1 rfl ?_
                refine z_aload_n Z dX7_readsCommand_122 1 rfl ?_
                have hm9 := rnF_le tx ln (rcE tx ln ta + 1)
                refine z_eqs [zO h0 6 [zi th, .ref aS, zi ((sv : Nat) : Int), .ref aF, .ref aX, zi ((ln : Nat) : Int), zi (((rcE tx ln ta) + 1 : Nat) : Int), zi 61, zi ((rc1 tx ln ta : Nat) : Int), zi ((rnF tx ln (rc1 tx ln ta) : Nat) : Int), zi (((rcE tx ln ta) + 1 : Nat) : Int), zi ((l2 : Nat) : Int)], zAI ct aX 80 (zN tx)] _ [.ref h0, .ref h0] (by rw [show (((rc1 tx ln ta) : Nat) : Int) = ((rc1 tx ln ta : Nat) : Int) from by omega, show (((rnF tx ln (rc1 tx ln ta)) : Nat) : Int) = ((rnF tx ln (rc1 tx ln ta) : Nat) : Int) from by omega]) rfl (rfl) ?_
                refine z_callVu (rest := [.ref h0]) Z dX7_readsCommand_123 6 0 _ _ rfl rfl rfl (zc_X7_readsName l D ct (h0) (aS) (aF) (aX) (th) (61) (sv) (ln) ((rcE tx ln ta) + 1) (rc1 tx ln ta) (rnF tx ln (rc1 tx ln ta)) ((rcE tx ln ta) + 1) (l2) (tx) (by first | assumption | omega) (by first | assumption | omega) (by first | assumption | omega)) (cwV 0 Z.1.2.2.2.2 gX7_readsCommand_X7_readsName rfl rfl rfl (by decide +kernel) ⟨Nat.le_of_ble_eq_true rfl, Nat.le_of_ble_eq_true rfl⟩) rfl (Nat.le_of_ble_eq_true rfl) ⟨Nat.le_of_ble_eq_true rfl, Nat.le_of_ble_eq_true rfl⟩ [true, true] [zO h0 6 [zi th, .ref aS, zi ((sv : Nat) : Int), .ref aF, .ref aX, zi ((ln : Nat) : Int), zi ((((rcE tx ln ta) + 1) + rnF tx ln ((rcE tx ln ta) + 1) : Nat) : Int), zi 61, zi (((rc1 tx ln ta) : Nat) : Int), zi (((rnF tx ln (rc1 tx ln ta)) : Nat) : Int), zi ((((rcE tx ln ta) + 1) : Nat) : Int), zi ((l2 : Nat) : Int)], zAI ct aX 80 (zN tx)] [zi ((rnF tx ln ((rcE tx ln ta) + 1) : Nat) : Int), .ref h0] rfl rfl rfl rfl ?_
                refine z_put (ty := .int) Z dX7_readsCommand_126 zin_X7_readsCommand_X7 tyX7 tyX7_ok nmX7 0 11 [zO h0 6 [zi th, .ref aS, zi ((sv : Nat) : Int), .ref aF, .ref aX, zi ((ln : Nat) : Int), zi ((((rcE tx ln ta) + 1) + rnF tx ln ((rcE tx ln ta) + 1) : Nat) : Int), zi 61, zi (((rc1 tx ln ta) : Nat) : Int), zi (((rnF tx ln (rc1 tx ln ta)) : Nat) : Int), zi ((((rcE tx ln ta) + 1) : Nat) : Int), zi ((rnF tx ln ((rcE tx ln ta) + 1) : Nat) : Int)], zAI ct aX 80 (zN tx)] rfl rfl (by decide) zlk_X7_readsCommand_130 rfl (by decide +kernel) rfl rfl (Nat.le_of_ble_eq_true rfl) rfl ?_
                refine z_aload_n Z dX7_readsCommand_129 1 rfl ?_
                refine z_get Z dX7_readsCommand_130 zin_X7_readsCommand_X7 0 11 rfl rfl (by decide) zlk_X7_readsCommand_130 rfl ?_
                refine z_if_le Z 140 dX7_readsCommand_133 (by decide) (by omega) (fun h133 => ?_) (fun h133 => ?_)
                · refine z_iconst (v := 0) Z dX7_readsCommand_140 rfl ?_
                  refine z_eqs [zO h0 6 [zi th, .ref aS, zi ((sv : Nat) : Int), .ref aF, .ref aX, zi ((ln : Nat) : Int), zi (((rcP tx ln ta f2 l2).1 : Nat) : Int), zi ((rcP tx ln ta f2 l2).2.1), zi (((rcP tx ln ta f2 l2).2.2.1 : Nat) : Int), zi (((rcP tx ln ta f2 l2).2.2.2.1 : Nat) : Int), zi (((rcP tx ln ta f2 l2).2.2.2.2.1 : Nat) : Int), zi (((rcP tx ln ta f2 l2).2.2.2.2.2 : Nat) : Int)], zAI ct aX 80 (zN tx)] _ [zi (zb (decide (rcB tx ln ta)))] (by simp only [hw9]) rfl (congrArg (fun z => [zi z]) (zb_np _ (fun z => absurd (hb9.mp z) (by omega)))) ?_
                  exact hR _ _ () trivial dX7_readsCommand_141
                · refine z_iconst (v := 1) Z dX7_readsCommand_136 rfl ?_
                  refine z_goto Z 141 dX7_readsCommand_137 (by decide) ?_
                  refine z_eqs [zO h0 6 [zi th, .ref aS, zi ((sv : Nat) : Int), .ref aF, .ref aX, zi ((ln : Nat) : Int), zi (((rcP tx ln ta f2 l2).1 : Nat) : Int), zi ((rcP tx ln ta f2 l2).2.1), zi (((rcP tx ln ta f2 l2).2.2.1 : Nat) : Int), zi (((rcP tx ln ta f2 l2).2.2.2.1 : Nat) : Int), zi (((rcP tx ln ta f2 l2).2.2.2.2.1 : Nat) : Int), zi (((rcP tx ln ta f2 l2).2.2.2.2.2 : Nat) : Int)], zAI ct aX 80 (zN tx)] _ [zi (zb (decide (rcB tx ln ta)))] (by simp only [hw9]) rfl (congrArg (fun z => [zi z]) (zb_p _ (hb9.mpr (by omega)))) ?_
                  exact hR _ _ () trivial dX7_readsCommand_141
              · have h108 := of_decide_eq_false h108
                exfalso; first | contradiction | omega
            · exfalso; first | contradiction | omega
        · have h43 := of_decide_eq_true h43
          exfalso; first | contradiction | omega
  · refine z_aload_n Z dX7_readsCommand_0 0 rfl ?_
    refine z_aload_n Z dX7_readsCommand_1 0 rfl ?_
    refine z_get Z dX7_readsCommand_2 zin_X7_readsCommand_X7 0 6 rfl rfl (by decide) zlk_X7_readsCommand_108 rfl ?_
    refine z_aload_n Z dX7_readsCommand_5 0 rfl ?_
    refine z_get Z dX7_readsCommand_6 zin_X7_readsCommand_X7 0 5 rfl rfl (by decide) zlk_X7_readsCommand_65 rfl ?_
    refine z_icmp_ge Z 24 dX7_readsCommand_9 (by decide) (by omega) (by omega) (fun h9 => ?_) (fun h9 => ?_)
    · exfalso; first | contradiction | omega
    · refine z_aload_n Z dX7_readsCommand_12 0 rfl ?_
      refine z_get Z dX7_readsCommand_13 zin_X7_readsCommand_X7 0 4 rfl rfl (by decide) zlk_X7_readsCommand_17 rfl ?_
      refine z_aload_n Z dX7_readsCommand_16 0 rfl ?_
      refine z_get Z dX7_readsCommand_17 zin_X7_readsCommand_X7 0 6 rfl rfl (by decide) zlk_X7_readsCommand_108 rfl ?_
      refine z_ialdN Z dX7_readsCommand_20 1 (ta) rfl (rfl) ⟨by omega, by omega⟩ ?_
      have he5 := ht (ta) (by omega)
      refine z_goto Z 25 dX7_readsCommand_21 (by decide) ?_
      refine z_put (ty := .int) Z dX7_readsCommand_25 zin_X7_readsCommand_X7 tyX7 tyX7_ok nmX7 0 7 [zO h0 6 [zi th, .ref aS, zi ((sv : Nat) : Int), .ref aF, .ref aX, zi ((ln : Nat) : Int), zi ((ta : Nat) : Int), zi ((tx ta : Nat) : Int), zi ((f1 : Nat) : Int), zi ((l1 : Nat) : Int), zi ((f2 : Nat) : Int), zi ((l2 : Nat) : Int)], zAI ct aX 80 (zN tx)] rfl rfl (by decide) zlk_X7_readsCommand_111 rfl (by decide +kernel) rfl rfl (Nat.le_of_ble_eq_true rfl) rfl ?_
      refine z_aload_n Z dX7_readsCommand_28 0 rfl ?_
      refine z_bipush (v := 43) Z dX7_readsCommand_29 (by decide +kernel) ?_
      refine z_callVu (rest := []) Z dX7_readsCommand_31 6 0 _ _ rfl rfl rfl (zc_X7_takes_f l D ct (h0) (aS) (aF) (aX) (th) (((tx ta : Nat) : Int)) (sv) (ln) (ta) (f1) (l1) (f2) (l2) (tx) (43) (by first | assumption | omega) (by first | assumption | omega) (by first | assumption | omega) (by decide) (by first | assumption | omega)) (cwV 1 Z.1.2.2.2.2 gX7_readsCommand_X7_takes rfl rfl rfl (by decide +kernel) ⟨Nat.le_of_ble_eq_true rfl, Nat.le_of_ble_eq_true rfl⟩) rfl (Nat.le_of_ble_eq_true rfl) ⟨Nat.le_of_ble_eq_true rfl, Nat.le_of_ble_eq_true rfl⟩ [true, true] [zO h0 6 [zi th, .ref aS, zi ((sv : Nat) : Int), .ref aF, .ref aX, zi ((ln : Nat) : Int), zi ((ta : Nat) : Int), zi ((tx ta : Nat) : Int), zi ((f1 : Nat) : Int), zi ((l1 : Nat) : Int), zi ((f2 : Nat) : Int), zi ((l2 : Nat) : Int)], zAI ct aX 80 (zN tx)] [zi (zb (decide (1 = 0)))] rfl rfl rfl rfl ?_
      refine z_ifb_ne Z 46 dX7_readsCommand_34 (by decide) (fun h34 => ?_) (fun h34 => ?_)
      · have h34 := of_decide_eq_true h34
        exfalso; first | contradiction | omega
      · have h34 := of_decide_eq_false h34
        refine z_aload_n Z dX7_readsCommand_37 0 rfl ?_
        refine z_bipush (v := 45) Z dX7_readsCommand_38 (by decide +kernel) ?_
        refine z_callVu (rest := []) Z dX7_readsCommand_40 6 0 _ _ rfl rfl rfl (zc_X7_takes_f l D ct (h0) (aS) (aF) (aX) (th) (((tx ta : Nat) : Int)) (sv) (ln) (ta) (f1) (l1) (f2) (l2) (tx) (45) (by first | assumption | omega) (by first | assumption | omega) (by first | assumption | omega) (by decide) (by first | assumption | omega)) (cwV 1 Z.1.2.2.2.2 gX7_readsCommand_X7_takes rfl rfl rfl (by decide +kernel) ⟨Nat.le_of_ble_eq_true rfl, Nat.le_of_ble_eq_true rfl⟩) rfl (Nat.le_of_ble_eq_true rfl) ⟨Nat.le_of_ble_eq_true rfl, Nat.le_of_ble_eq_true rfl⟩ [true, true] [zO h0 6 [zi th, .ref aS, zi ((sv : Nat) : Int), .ref aF, .ref aX, zi ((ln : Nat) : Int), zi ((ta : Nat) : Int), zi ((tx ta : Nat) : Int), zi ((f1 : Nat) : Int), zi ((l1 : Nat) : Int), zi ((f2 : Nat) : Int), zi ((l2 : Nat) : Int)], zAI ct aX 80 (zN tx)] [zi (zb (decide (1 = 0)))] rfl rfl rfl rfl ?_
        refine z_ifb_eq Z 50 dX7_readsCommand_43 (by decide) (fun h43 => ?_) (fun h43 => ?_)
        · have h43 := of_decide_eq_false h43
          refine z_iconst (v := 0) Z dX7_readsCommand_50 rfl ?_
          refine z_istore_n Z dX7_readsCommand_51 [(1, zi 0), (0, .ref h0)] (by decide) rfl ?_
          refine z_eqs [zO h0 6 [zi th, .ref aS, zi ((sv : Nat) : Int), .ref aF, .ref aX, zi ((ln : Nat) : Int), zi ((rc1 tx ln ta : Nat) : Int), zi ((tx ta : Nat) : Int), zi ((f1 : Nat) : Int), zi ((l1 : Nat) : Int), zi ((f2 : Nat) : Int), zi ((l2 : Nat) : Int)], zAI ct aX 80 (zN tx)] _ _ (by rw [show rc1 tx ln ta = ta from by omega]) rfl rfl ?_
          refine z_aload_n Z dX7_readsCommand_52 1 rfl ?_
          refine z_aload_n Z dX7_readsCommand_53 1 rfl ?_
          refine z_get Z dX7_readsCommand_54 zin_X7_readsCommand_X7 0 6 rfl rfl (by decide) zlk_X7_readsCommand_108 rfl ?_
          refine z_put (ty := .int) Z dX7_readsCommand_57 zin_X7_readsCommand_X7 tyX7 tyX7_ok nmX7 0 8 [zO h0 6 [zi th, .ref aS, zi ((sv : Nat) : Int), .ref aF, .ref aX, zi ((ln : Nat) : Int), zi ((rc1 tx ln ta : Nat) : Int), zi ((tx ta : Nat) : Int), zi ((rc1 tx ln ta : Nat) : Int), zi ((l1 : Nat) : Int), zi ((f2 : Nat) : Int), zi ((l2 : Nat) : Int)], zAI ct aX 80 (zN tx)] rfl rfl (by decide) zlk_X7_readsCommand_117 rfl (by decide +kernel) rfl rfl (Nat.le_of_ble_eq_true rfl) rfl ?_
          refine z_aload_n Z dX7_readsCommand_60 1 rfl ?_
          refine z_aload_n Z dX7_readsCommand_61 1 rfl ?_
          have hn9 := rnF_le tx ln (rc1 tx ln ta)
          have hn7 := rc1_le tx hta
          refine z_callVu (rest := [.ref h0]) Z dX7_readsCommand_62 6 0 _ _ rfl rfl rfl (zc_X7_readsName l D ct (h0) (aS) (aF) (aX) (th) (((tx ta : Nat) : Int)) (sv) (ln) (rc1 tx ln ta) (rc1 tx ln ta) (l1) (f2) (l2) (tx) (by first | assumption | omega) (by first | assumption | omega) (by first | assumption | omega)) (cwV 0 Z.1.2.2.2.2 gX7_readsCommand_X7_readsName rfl rfl rfl (by decide +kernel) ⟨Nat.le_of_ble_eq_true rfl, Nat.le_of_ble_eq_true rfl⟩) rfl (Nat.le_of_ble_eq_true rfl) ⟨Nat.le_of_ble_eq_true rfl, Nat.le_of_ble_eq_true rfl⟩ [true, true] [zO h0 6 [zi th, .ref aS, zi ((sv : Nat) : Int), .ref aF, .ref aX, zi ((ln : Nat) : Int), zi (((rc1 tx ln ta) + rnF tx ln (rc1 tx ln ta) : Nat) : Int), zi ((tx ta : Nat) : Int), zi (((rc1 tx ln ta) : Nat) : Int), zi ((l1 : Nat) : Int), zi ((f2 : Nat) : Int), zi ((l2 : Nat) : Int)], zAI ct aX 80 (zN tx)] [zi ((rnF tx ln (rc1 tx ln ta) : Nat) : Int), .ref h0] rfl rfl rfl rfl ?_
          refine z_put (ty := .int) Z dX7_readsCommand_65 zin_X7_readsCommand_X7 tyX7 tyX7_ok nmX7 0 9 [zO h0 6 [zi th, .ref aS, zi ((sv : Nat) : Int), .ref aF, .ref aX, zi ((ln : Nat) : Int), zi (((rc1 tx ln ta) + rnF tx ln (rc1 tx ln ta) : Nat) : Int), zi ((tx ta : Nat) : Int), zi (((rc1 tx ln ta) : Nat) : Int), zi ((rnF tx ln (rc1 tx ln ta) : Nat) : Int), zi ((f2 : Nat) : Int), zi ((l2 : Nat) : Int)], zAI ct aX 80 (zN tx)] rfl rfl (by decide) zlk_X7_readsCommand_124 rfl (by decide +kernel) rfl rfl (Nat.le_of_ble_eq_true rfl) rfl ?_
          have hn8 := rcE_le tx hta
          refine z_eqs [zO h0 6 [zi th, .ref aS, zi ((sv : Nat) : Int), .ref aF, .ref aX, zi ((ln : Nat) : Int), zi ((rcE tx ln ta : Nat) : Int), zi ((tx ta : Nat) : Int), zi (((rc1 tx ln ta) : Nat) : Int), zi ((rnF tx ln (rc1 tx ln ta) : Nat) : Int), zi ((f2 : Nat) : Int), zi ((l2 : Nat) : Int)], zAI ct aX 80 (zN tx)] _ _ (rfl) rfl rfl ?_
          refine z_iload_n Z dX7_readsCommand_68 0 rfl ?_
          refine z_if_ne Z 79 dX7_readsCommand_69 (by decide) (by omega) (fun h69 => ?_) (fun h69 => ?_)
          · exfalso; first | contradiction | omega
          · refine z_aload_n Z dX7_readsCommand_72 1 rfl ?_
            refine z_get Z dX7_readsCommand_73 zin_X7_readsCommand_X7 0 9 rfl rfl (by decide) zlk_X7_readsCommand_124 rfl ?_
            refine z_if_ne Z 96 dX7_readsCommand_76 (by decide) (by omega) (fun h76 => ?_) (fun h76 => ?_)
            · refine z_aload_n Z dX7_readsCommand_96 1 rfl ?_
              refine z_bipush (v := 61) Z dX7_readsCommand_97 (by decide +kernel) ?_
              refine z_put (ty := .int) Z dX7_readsCommand_99 zin_X7_readsCommand_X7 tyX7 tyX7_ok nmX7 0 7 [zO h0 6 [zi th, .ref aS, zi ((sv : Nat) : Int), .ref aF, .ref aX, zi ((ln : Nat) : Int), zi ((rcE tx ln ta : Nat) : Int), zi 61, zi (((rc1 tx ln ta) : Nat) : Int), zi ((rnF tx ln (rc1 tx ln ta) : Nat) : Int), zi ((f2 : Nat) : Int), zi ((l2 : Nat) : Int)], zAI ct aX 80 (zN tx)] rfl rfl (by decide) zlk_X7_readsCommand_111 rfl (by decide +kernel) rfl rfl (Nat.le_of_ble_eq_true rfl) rfl ?_
              refine z_aload_n Z dX7_readsCommand_102 1 rfl ?_
              refine z_bipush (v := 61) Z dX7_readsCommand_103 (by decide +kernel) ?_
              refine z_eqs [zO h0 6 [zi th, .ref aS, zi ((sv : Nat) : Int), .ref aF, .ref aX, zi ((ln : Nat) : Int), zi ((rcE tx ln ta : Nat) : Int), zi 61, zi ((rc1 tx ln ta : Nat) : Int), zi ((rnF tx ln (rc1 tx ln ta) : Nat) : Int), zi ((f2 : Nat) : Int), zi ((l2 : Nat) : Int)], zAI ct aX 80 (zN tx)] _ [zi 61, .ref h0] (by rw [show (((rc1 tx ln ta) : Nat) : Int) = ((rc1 tx ln ta : Nat) : Int) from by omega]) rfl (rfl) ?_
              refine z_callVu (rest := []) Z dX7_readsCommand_105 6 0 _ _ rfl rfl rfl (zc_X7_takes_f l D ct (h0) (aS) (aF) (aX) (th) (61) (sv) (ln) (rcE tx ln ta) (rc1 tx ln ta) (rnF tx ln (rc1 tx ln ta)) (f2) (l2) (tx) (61) (by first | assumption | omega) (by first | assumption | omega) (by first | assumption | omega) (by decide) (by first | assumption | omega)) (cwV 1 Z.1.2.2.2.2 gX7_readsCommand_X7_takes rfl rfl rfl (by decide +kernel) ⟨Nat.le_of_ble_eq_true rfl, Nat.le_of_ble_eq_true rfl⟩) rfl (Nat.le_of_ble_eq_true rfl) ⟨Nat.le_of_ble_eq_true rfl, Nat.le_of_ble_eq_true rfl⟩ [true, true] [zO h0 6 [zi th, .ref aS, zi ((sv : Nat) : Int), .ref aF, .ref aX, zi ((ln : Nat) : Int), zi (((rcE tx ln ta) : Nat) : Int), zi 61, zi (((rc1 tx ln ta) : Nat) : Int), zi (((rnF tx ln (rc1 tx ln ta)) : Nat) : Int), zi ((f2 : Nat) : Int), zi ((l2 : Nat) : Int)], zAI ct aX 80 (zN tx)] [zi (zb (decide (1 = 0)))] rfl rfl rfl rfl ?_
              refine z_ifb_ne Z 113 dX7_readsCommand_108 (by decide) (fun h108 => ?_) (fun h108 => ?_)
              · have h108 := of_decide_eq_true h108
                exfalso; first | contradiction | omega
              · have h108 := of_decide_eq_false h108
                refine z_iconst (v := 0) Z dX7_readsCommand_111 rfl ?_
                refine z_eqs [zO h0 6 [zi th, .ref aS, zi ((sv : Nat) : Int), .ref aF, .ref aX, zi ((ln : Nat) : Int), zi (((rcP tx ln ta f2 l2).1 : Nat) : Int), zi ((rcP tx ln ta f2 l2).2.1), zi (((rcP tx ln ta f2 l2).2.2.1 : Nat) : Int), zi (((rcP tx ln ta f2 l2).2.2.2.1 : Nat) : Int), zi (((rcP tx ln ta f2 l2).2.2.2.2.1 : Nat) : Int), zi (((rcP tx ln ta f2 l2).2.2.2.2.2 : Nat) : Int)], zAI ct aX 80 (zN tx)] _ [zi (zb (decide (rcB tx ln ta)))] (by simp only [hw9]) rfl (congrArg (fun z => [zi z]) (zb_np _ (fun z => absurd (hb9.mp z) (by omega)))) ?_
                exact hR _ _ () trivial dX7_readsCommand_112
            · exfalso; first | contradiction | omega
        · have h43 := of_decide_eq_true h43
          exfalso; first | contradiction | omega
theorem zin_X7_areCommands_X7 : ∀ w ∈ wsX70, w ∈ wsX7_areCommands := by decide +kernel
theorem zlk_X7_areCommands_108 : Cond.fieldLink RX7 108 "HashedDirectoryModel" "at" "I" ∈ wsX7_areCommands := by decide +kernel
theorem zlk_X7_areCommands_65 : Cond.fieldLink RX7 65 "HashedDirectoryModel" "length" "I" ∈ wsX7_areCommands := by decide +kernel
set_option maxHeartbeats 4000000 in
set_option maxRecDepth 100000 in
theorem zc_X7_areCommands (l : Launch) (D : va_G) (ct : zCT) (h0 : Nat) (aS : Nat) (aF : Nat) (aX : Nat) (th : Int) (sg : Int) (sv : Nat) (ln : Nat) (ta : Nat) (f1 : Nat) (l1 : Nat) (f2 : Nat) (l2 : Nat) (tx : Nat → Nat) (ht : ∀ j, j < 80 → tx j < 128) (hln : ln ≤ 80) : zMet l yX7_areCommands wsX7_areCommands ({ frames := 3, cells := 0, slots := 0, locals := 64 } : Room) D ct [.ref h0] [zO h0 6 [zi th, .ref aS, zi ((sv : Nat) : Int), .ref aF, .ref aX, zi ((ln : Nat) : Int), zi ((ta : Nat) : Int), zi sg, zi ((f1 : Nat) : Int), zi ((l1 : Nat) : Int), zi ((f2 : Nat) : Int), zi ((l2 : Nat) : Int)], zAI ct aX 80 (zN tx)] (fun _ : Unit => True) (fun _ => some (zi (zb (decide ((acF tx ln (ln + 1) (0, sg, f1, l1, f2, l2)).1 = true))))) (fun _ => [zO h0 6 [zi th, .ref aS, zi ((sv : Nat) : Int), .ref aF, .ref aX, zi ((ln : Nat) : Int), zi (((acF tx ln (ln + 1) (0, sg, f1, l1, f2, l2)).2.1 : Nat) : Int), zi ((acF tx ln (ln + 1) (0, sg, f1, l1, f2, l2)).2.2.1), zi (((acF tx ln (ln + 1) (0, sg, f1, l1, f2, l2)).2.2.2.1 : Nat) : Int), zi (((acF tx ln (ln + 1) (0, sg, f1, l1, f2, l2)).2.2.2.2.1 : Nat) : Int), zi (((acF tx ln (ln + 1) (0, sg, f1, l1, f2, l2)).2.2.2.2.2.1 : Nat) : Int), zi (((acF tx ln (ln + 1) (0, sg, f1, l1, f2, l2)).2.2.2.2.2.2 : Nat) : Int)], zAI ct aX 80 (zN tx)]) 0 0 := by
  refine zMet_z (cc := cX7_areCommands) (maxL := 1) (r := fun _ => zb (decide ((acF tx ln (ln + 1) (0, sg, f1, l1, f2, l2)).1 = true))) (by decide) rfl (Nat.le_of_ble_eq_true rfl) (fun _ _ => zb_n _) ?_
  intro p e s m below meth c A Q Z hnm hR
  refine z_eqs _ [(0, .ref h0)] _ rfl rfl rfl ?_
  refine z_aload_n Z dX7_areCommands_0 0 rfl ?_
  refine z_iconst (v := 0) Z dX7_areCommands_1 rfl ?_
  refine z_put (ty := .int) Z dX7_areCommands_2 zin_X7_areCommands_X7 tyX7 tyX7_ok nmX7 0 6 [zO h0 6 [zi th, .ref aS, zi ((sv : Nat) : Int), .ref aF, .ref aX, zi ((ln : Nat) : Int), zi 0, zi sg, zi ((f1 : Nat) : Int), zi ((l1 : Nat) : Int), zi ((f2 : Nat) : Int), zi ((l2 : Nat) : Int)], zAI ct aX 80 (zN tx)] rfl rfl (by decide) zlk_X7_areCommands_108 rfl (by decide +kernel) rfl rfl (Nat.le_of_ble_eq_true rfl) rfl ?_
  have LOOP5 : ∀ (N0 : Nat) (p9 : PsV) (n9 : Nat) (y0_6 : Int) (y0_7 : Int) (y0_8 : Int) (y0_9 : Int) (y0_10 : Int) (y0_11 : Int), n9 < N0 → y0_6 = ((p9.1 : Nat) : Int) → y0_7 = (p9.2.1) → y0_8 = ((p9.2.2.1 : Nat) : Int) → y0_9 = ((p9.2.2.2.1 : Nat) : Int) → y0_10 = ((p9.2.2.2.2.1 : Nat) : Int) → y0_11 = ((p9.2.2.2.2.2 : Nat) : Int) → (p9.1 ≤ ln) → (ln + 1 ≤ n9 + p9.1) → (acF tx ln n9 p9 = (acF tx ln (ln + 1) (0, sg, f1, l1, f2, l2))) → zW p l e ({ frames := 3, cells := 0, slots := 0, locals := 64 } : Room) s m ([.ref h0] : List Value).toArray below meth c D A 1 Q 0 0 [zO h0 6 [zi th, .ref aS, zi ((sv : Nat) : Int), .ref aF, .ref aX, zi ((ln : Nat) : Int), zi y0_6, zi y0_7, zi y0_8, zi y0_9, zi y0_10, zi y0_11], zAI ct aX 80 (zN tx)] [(0, .ref h0)] 5 [] := by
    intro N0
    induction N0 with
    | zero => intro p9 n9 y0_6 y0_7 y0_8 y0_9 y0_10 y0_11 hm0; exact absurd hm0 (Nat.not_lt_zero _)
    | succ N0 ih0 =>
      intro p9 n9 y0_6 y0_7 y0_8 y0_9 y0_10 y0_11 hm0 ey0_6 ey0_7 ey0_8 ey0_9 ey0_10 ey0_11 hp9 hn9 he
      subst ey0_6
      subst ey0_7
      subst ey0_8
      subst ey0_9
      subst ey0_10
      subst ey0_11
      refine z_aload_n Z dX7_areCommands_5 0 rfl ?_
      refine z_callVu (rest := []) Z dX7_areCommands_6 6 0 _ _ rfl rfl rfl (zc_X7_readsCommand l D ct (h0) (aS) (aF) (aX) (th) ((p9.2.1)) (sv) (ln) (p9.1) (p9.2.2.1) (p9.2.2.2.1) (p9.2.2.2.2.1) (p9.2.2.2.2.2) (tx) (by first | assumption | omega) (by first | assumption | omega) (hp9)) (cwV 0 Z.1.2.2.2.2 gX7_areCommands_X7_readsCommand rfl rfl rfl (by decide +kernel) ⟨Nat.le_of_ble_eq_true rfl, Nat.le_of_ble_eq_true rfl⟩) rfl (Nat.le_of_ble_eq_true rfl) ⟨Nat.le_of_ble_eq_true rfl, Nat.le_of_ble_eq_true rfl⟩ [true, true] [zO h0 6 [zi th, .ref aS, zi ((sv : Nat) : Int), .ref aF, .ref aX, zi ((ln : Nat) : Int), zi (((rcP tx ln (p9.1) (p9.2.2.2.2.1) (p9.2.2.2.2.2)).1 : Nat) : Int), zi ((rcP tx ln (p9.1) (p9.2.2.2.2.1) (p9.2.2.2.2.2)).2.1), zi (((rcP tx ln (p9.1) (p9.2.2.2.2.1) (p9.2.2.2.2.2)).2.2.1 : Nat) : Int), zi (((rcP tx ln (p9.1) (p9.2.2.2.2.1) (p9.2.2.2.2.2)).2.2.2.1 : Nat) : Int), zi (((rcP tx ln (p9.1) (p9.2.2.2.2.1) (p9.2.2.2.2.2)).2.2.2.2.1 : Nat) : Int), zi (((rcP tx ln (p9.1) (p9.2.2.2.2.1) (p9.2.2.2.2.2)).2.2.2.2.2 : Nat) : Int)], zAI ct aX 80 (zN tx)] [zi (zb (decide (rcB tx ln (p9.1))))] rfl rfl rfl rfl ?_
      have hq9 := rcP_le tx p9.2.2.2.2.1 p9.2.2.2.2.2 hp9
      refine z_ifb_eq Z 36 dX7_areCommands_9 (by decide) (fun h9 => ?_) (fun h9 => ?_)
      · have h9 := of_decide_eq_false h9
        refine z_iconst (v := 0) Z dX7_areCommands_36 rfl ?_
        refine z_eqs [zO h0 6 [zi th, .ref aS, zi ((sv : Nat) : Int), .ref aF, .ref aX, zi ((ln : Nat) : Int), zi (((acF tx ln (ln + 1) (0, sg, f1, l1, f2, l2)).2.1 : Nat) : Int), zi ((acF tx ln (ln + 1) (0, sg, f1, l1, f2, l2)).2.2.1), zi (((acF tx ln (ln + 1) (0, sg, f1, l1, f2, l2)).2.2.2.1 : Nat) : Int), zi (((acF tx ln (ln + 1) (0, sg, f1, l1, f2, l2)).2.2.2.2.1 : Nat) : Int), zi (((acF tx ln (ln + 1) (0, sg, f1, l1, f2, l2)).2.2.2.2.2.1 : Nat) : Int), zi (((acF tx ln (ln + 1) (0, sg, f1, l1, f2, l2)).2.2.2.2.2.2 : Nat) : Int)], zAI ct aX 80 (zN tx)] _ [zi (zb (decide ((acF tx ln (ln + 1) (0, sg, f1, l1, f2, l2)).1 = true)))] (by rw [← he, acF_f2 (by omega) h9]) rfl (congrArg (fun z => [zi z]) (zb_np _ (by rw [← he, acF_f2 (by omega) h9]; exact Bool.false_ne_true))) ?_
        exact hR _ _ () trivial dX7_areCommands_37
      · have h9 := of_decide_eq_true h9
        have hq8 := rcP_lt p9.2.2.2.2.1 p9.2.2.2.2.2 h9
        refine z_aload_n Z dX7_areCommands_12 0 rfl ?_
        refine z_get Z dX7_areCommands_13 zin_X7_areCommands_X7 0 6 rfl rfl (by decide) zlk_X7_areCommands_108 rfl ?_
        refine z_aload_n Z dX7_areCommands_16 0 rfl ?_
        refine z_get Z dX7_areCommands_17 zin_X7_areCommands_X7 0 5 rfl rfl (by decide) zlk_X7_areCommands_65 rfl ?_
        refine z_icmp_ne Z 25 dX7_areCommands_20 (by decide) (by omega) (by omega) (fun h20 => ?_) (fun h20 => ?_)
        · refine z_aload_n Z dX7_areCommands_25 0 rfl ?_
          refine z_bipush (v := 59) Z dX7_areCommands_26 (by decide +kernel) ?_
          rcases Classical.em ((rcP tx ln (p9.1) (p9.2.2.2.2.1) (p9.2.2.2.2.2)).1 < ln ∧ tx (rcP tx ln (p9.1) (p9.2.2.2.2.1) (p9.2.2.2.2.2)).1 = 59) with hk1 | hk1
          · refine z_callVu (rest := []) Z dX7_areCommands_28 6 0 _ _ rfl rfl rfl (zc_X7_takes_t l D ct (h0) (aS) (aF) (aX) (th) (((rcP tx ln (p9.1) (p9.2.2.2.2.1) (p9.2.2.2.2.2)).2.1)) (sv) (ln) ((rcP tx ln (p9.1) (p9.2.2.2.2.1) (p9.2.2.2.2.2)).1) ((rcP tx ln (p9.1) (p9.2.2.2.2.1) (p9.2.2.2.2.2)).2.2.1) ((rcP tx ln (p9.1) (p9.2.2.2.2.1) (p9.2.2.2.2.2)).2.2.2.1) ((rcP tx ln (p9.1) (p9.2.2.2.2.1) (p9.2.2.2.2.2)).2.2.2.2.1) ((rcP tx ln (p9.1) (p9.2.2.2.2.1) (p9.2.2.2.2.2)).2.2.2.2.2) (tx) (59) (by first | assumption | omega) (by first | assumption | omega) (by first | assumption | omega) (by decide) (hk1)) (cwV 1 Z.1.2.2.2.2 gX7_areCommands_X7_takes rfl rfl rfl (by decide +kernel) ⟨Nat.le_of_ble_eq_true rfl, Nat.le_of_ble_eq_true rfl⟩) rfl (Nat.le_of_ble_eq_true rfl) ⟨Nat.le_of_ble_eq_true rfl, Nat.le_of_ble_eq_true rfl⟩ [true, true] [zO h0 6 [zi th, .ref aS, zi ((sv : Nat) : Int), .ref aF, .ref aX, zi ((ln : Nat) : Int), zi ((((rcP tx ln (p9.1) (p9.2.2.2.2.1) (p9.2.2.2.2.2)).1) + 1 : Nat) : Int), zi ((rcP tx ln (p9.1) (p9.2.2.2.2.1) (p9.2.2.2.2.2)).2.1), zi ((((rcP tx ln (p9.1) (p9.2.2.2.2.1) (p9.2.2.2.2.2)).2.2.1) : Nat) : Int), zi ((((rcP tx ln (p9.1) (p9.2.2.2.2.1) (p9.2.2.2.2.2)).2.2.2.1) : Nat) : Int), zi ((((rcP tx ln (p9.1) (p9.2.2.2.2.1) (p9.2.2.2.2.2)).2.2.2.2.1) : Nat) : Int), zi ((((rcP tx ln (p9.1) (p9.2.2.2.2.1) (p9.2.2.2.2.2)).2.2.2.2.2) : Nat) : Int)], zAI ct aX 80 (zN tx)] [zi (zb (decide (0 = 0)))] rfl rfl rfl rfl ?_
            refine z_ifb_ne Z 5 dX7_areCommands_31 (by decide) (fun h31 => ?_) (fun h31 => ?_)
            · have h31 := of_decide_eq_true h31
              exact ih0 ((rcP tx ln (p9.1) (p9.2.2.2.2.1) (p9.2.2.2.2.2)).1 + 1, (rcP tx ln (p9.1) (p9.2.2.2.2.1) (p9.2.2.2.2.2)).2) (n9 - 1) _ _ _ _ _ _ (by omega)  (by first | rfl | omega) (by first | rfl | omega) (by first | rfl | omega) (by first | rfl | omega) (by first | rfl | omega) (by first | rfl | omega) (by show (rcP tx ln (p9.1) (p9.2.2.2.2.1) (p9.2.2.2.2.2)).1 + 1 ≤ ln; omega) (by show ln + 1 ≤ n9 - 1 + ((rcP tx ln (p9.1) (p9.2.2.2.2.1) (p9.2.2.2.2.2)).1 + 1); omega) ((acF_next (by omega) h9 (by omega) hk1).symm.trans he)
            · have h31 := of_decide_eq_false h31
              exfalso; first | contradiction | omega
          · refine z_callVu (rest := []) Z dX7_areCommands_28 6 0 _ _ rfl rfl rfl (zc_X7_takes_f l D ct (h0) (aS) (aF) (aX) (th) (((rcP tx ln (p9.1) (p9.2.2.2.2.1) (p9.2.2.2.2.2)).2.1)) (sv) (ln) ((rcP tx ln (p9.1) (p9.2.2.2.2.1) (p9.2.2.2.2.2)).1) ((rcP tx ln (p9.1) (p9.2.2.2.2.1) (p9.2.2.2.2.2)).2.2.1) ((rcP tx ln (p9.1) (p9.2.2.2.2.1) (p9.2.2.2.2.2)).2.2.2.1) ((rcP tx ln (p9.1) (p9.2.2.2.2.1) (p9.2.2.2.2.2)).2.2.2.2.1) ((rcP tx ln (p9.1) (p9.2.2.2.2.1) (p9.2.2.2.2.2)).2.2.2.2.2) (tx) (59) (by first | assumption | omega) (by first | assumption | omega) (by first | assumption | omega) (by decide) (hk1)) (cwV 1 Z.1.2.2.2.2 gX7_areCommands_X7_takes rfl rfl rfl (by decide +kernel) ⟨Nat.le_of_ble_eq_true rfl, Nat.le_of_ble_eq_true rfl⟩) rfl (Nat.le_of_ble_eq_true rfl) ⟨Nat.le_of_ble_eq_true rfl, Nat.le_of_ble_eq_true rfl⟩ [true, true] [zO h0 6 [zi th, .ref aS, zi ((sv : Nat) : Int), .ref aF, .ref aX, zi ((ln : Nat) : Int), zi ((((rcP tx ln (p9.1) (p9.2.2.2.2.1) (p9.2.2.2.2.2)).1) : Nat) : Int), zi ((rcP tx ln (p9.1) (p9.2.2.2.2.1) (p9.2.2.2.2.2)).2.1), zi ((((rcP tx ln (p9.1) (p9.2.2.2.2.1) (p9.2.2.2.2.2)).2.2.1) : Nat) : Int), zi ((((rcP tx ln (p9.1) (p9.2.2.2.2.1) (p9.2.2.2.2.2)).2.2.2.1) : Nat) : Int), zi ((((rcP tx ln (p9.1) (p9.2.2.2.2.1) (p9.2.2.2.2.2)).2.2.2.2.1) : Nat) : Int), zi ((((rcP tx ln (p9.1) (p9.2.2.2.2.1) (p9.2.2.2.2.2)).2.2.2.2.2) : Nat) : Int)], zAI ct aX 80 (zN tx)] [zi (zb (decide (1 = 0)))] rfl rfl rfl rfl ?_
            refine z_ifb_ne Z 5 dX7_areCommands_31 (by decide) (fun h31 => ?_) (fun h31 => ?_)
            · have h31 := of_decide_eq_true h31
              exfalso; first | contradiction | omega
            · have h31 := of_decide_eq_false h31
              refine z_iconst (v := 0) Z dX7_areCommands_34 rfl ?_
              refine z_eqs [zO h0 6 [zi th, .ref aS, zi ((sv : Nat) : Int), .ref aF, .ref aX, zi ((ln : Nat) : Int), zi (((acF tx ln (ln + 1) (0, sg, f1, l1, f2, l2)).2.1 : Nat) : Int), zi ((acF tx ln (ln + 1) (0, sg, f1, l1, f2, l2)).2.2.1), zi (((acF tx ln (ln + 1) (0, sg, f1, l1, f2, l2)).2.2.2.1 : Nat) : Int), zi (((acF tx ln (ln + 1) (0, sg, f1, l1, f2, l2)).2.2.2.2.1 : Nat) : Int), zi (((acF tx ln (ln + 1) (0, sg, f1, l1, f2, l2)).2.2.2.2.2.1 : Nat) : Int), zi (((acF tx ln (ln + 1) (0, sg, f1, l1, f2, l2)).2.2.2.2.2.2 : Nat) : Int)], zAI ct aX 80 (zN tx)] _ [zi (zb (decide ((acF tx ln (ln + 1) (0, sg, f1, l1, f2, l2)).1 = true)))] (by rw [← he, acF_f1 (by omega) h9 (by omega) hk1]) rfl (congrArg (fun z => [zi z]) (zb_np _ (by rw [← he, acF_f1 (by omega) h9 (by omega) hk1]; exact Bool.false_ne_true))) ?_
              exact hR _ _ () trivial dX7_areCommands_35
        · refine z_iconst (v := 1) Z dX7_areCommands_23 rfl ?_
          refine z_eqs [zO h0 6 [zi th, .ref aS, zi ((sv : Nat) : Int), .ref aF, .ref aX, zi ((ln : Nat) : Int), zi (((acF tx ln (ln + 1) (0, sg, f1, l1, f2, l2)).2.1 : Nat) : Int), zi ((acF tx ln (ln + 1) (0, sg, f1, l1, f2, l2)).2.2.1), zi (((acF tx ln (ln + 1) (0, sg, f1, l1, f2, l2)).2.2.2.1 : Nat) : Int), zi (((acF tx ln (ln + 1) (0, sg, f1, l1, f2, l2)).2.2.2.2.1 : Nat) : Int), zi (((acF tx ln (ln + 1) (0, sg, f1, l1, f2, l2)).2.2.2.2.2.1 : Nat) : Int), zi (((acF tx ln (ln + 1) (0, sg, f1, l1, f2, l2)).2.2.2.2.2.2 : Nat) : Int)], zAI ct aX 80 (zN tx)] _ [zi (zb (decide ((acF tx ln (ln + 1) (0, sg, f1, l1, f2, l2)).1 = true)))] (by rw [← he, acF_t (by omega) h9 (by omega)]) rfl (congrArg (fun z => [zi z]) (zb_p _ (by rw [← he, acF_t (by omega) h9 (by omega)]))) ?_
          exact hR _ _ () trivial dX7_areCommands_24
  exact LOOP5 ((ln + 1) + 1) (0, sg, f1, l1, f2, l2) (ln + 1) _ _ _ _ _ _ (Nat.lt_succ_self _)  (by first | rfl | omega) (by first | rfl | omega) (by first | rfl | omega) (by first | rfl | omega) (by first | rfl | omega) (by first | rfl | omega) (Nat.zero_le _) (Nat.le_refl _) (rfl)
theorem zin_X7_errorPosition_X7 : ∀ w ∈ wsX70, w ∈ wsX7_errorPosition := by decide +kernel
theorem zlk_X7_errorPosition_20 : Cond.fieldLink RX7 20 "HashedDirectoryModel" "thrown" "I" ∈ wsX7_errorPosition := by decide +kernel
theorem zlk_X7_errorPosition_108 : Cond.fieldLink RX7 108 "HashedDirectoryModel" "at" "I" ∈ wsX7_errorPosition := by decide +kernel
set_option maxHeartbeats 4000000 in
set_option maxRecDepth 100000 in
theorem zc_X7_errorPosition_0 (l : Launch) (D : va_G) (ct : zCT) (h0 : Nat) (aS : Nat) (aF : Nat) (aX : Nat) (th : Int) (sg : Int) (sv : Nat) (ln : Nat) (ta : Nat) (f1 : Nat) (l1 : Nat) (f2 : Nat) (l2 : Nat) (g : Nat → Int) (fz : Nat → Int) (tx : Nat → Nat) (ht : ∀ j, j < 80 → tx j < 128) (hln : ln ≤ 80) : zMet l yX7_errorPosition wsX7_errorPosition ({ frames := 4, cells := 0, slots := 0, locals := 84 } : Room) D ct [.ref h0] [zO h0 6 [zi th, .ref aS, zi ((sv : Nat) : Int), .ref aF, .ref aX, zi ((ln : Nat) : Int), zi ((ta : Nat) : Int), zi sg, zi ((f1 : Nat) : Int), zi ((l1 : Nat) : Int), zi ((f2 : Nat) : Int), zi ((l2 : Nat) : Int)], zAI ct aS 3888 g, zAZ ct aF 2 fz, zAI ct aX 80 (zN tx)] (fun _ : Unit => True) (fun _ => some (zi ((if (acF tx ln (ln + 1) (0, sg, f1, l1, f2, l2)).1 = true then -2 else (((acF tx ln (ln + 1) (0, sg, f1, l1, f2, l2)).2.1 : Nat) : Int))))) (fun _ => [zO h0 6 [zi 0, .ref aS, zi ((sv : Nat) : Int), .ref aF, .ref aX, zi ((ln : Nat) : Int), zi (((acF tx ln (ln + 1) (0, sg, f1, l1, f2, l2)).2.1 : Nat) : Int), zi ((acF tx ln (ln + 1) (0, sg, f1, l1, f2, l2)).2.2.1), zi (((acF tx ln (ln + 1) (0, sg, f1, l1, f2, l2)).2.2.2.1 : Nat) : Int), zi (((acF tx ln (ln + 1) (0, sg, f1, l1, f2, l2)).2.2.2.2.1 : Nat) : Int), zi (((acF tx ln (ln + 1) (0, sg, f1, l1, f2, l2)).2.2.2.2.2.1 : Nat) : Int), zi (((acF tx ln (ln + 1) (0, sg, f1, l1, f2, l2)).2.2.2.2.2.2 : Nat) : Int)], zAI ct aS 3888 g, zAZ ct aF 2 fz, zAI ct aX 80 (zN tx)]) 0 0 := by
  refine zMet_i (cc := cX7_errorPosition) (maxL := 1) (r := fun _ => (if (acF tx ln (ln + 1) (0, sg, f1, l1, f2, l2)).1 = true then -2 else (((acF tx ln (ln + 1) (0, sg, f1, l1, f2, l2)).2.1 : Nat) : Int))) (by decide) rfl (Nat.le_of_ble_eq_true rfl) ?_
  intro p e s m below meth c A Q Z hnm hR
  refine z_eqs _ [(0, .ref h0)] _ rfl rfl rfl ?_
  refine z_aload_n Z dX7_errorPosition_0 0 rfl ?_
  refine z_iconst (v := 0) Z dX7_errorPosition_1 rfl ?_
  refine z_put (ty := .int) Z dX7_errorPosition_2 zin_X7_errorPosition_X7 tyX7 tyX7_ok nmX7 0 0 [zO h0 6 [zi 0, .ref aS, zi ((sv : Nat) : Int), .ref aF, .ref aX, zi ((ln : Nat) : Int), zi ((ta : Nat) : Int), zi sg, zi ((f1 : Nat) : Int), zi ((l1 : Nat) : Int), zi ((f2 : Nat) : Int), zi ((l2 : Nat) : Int)], zAI ct aS 3888 g, zAZ ct aF 2 fz, zAI ct aX 80 (zN tx)] rfl rfl (by decide) zlk_X7_errorPosition_20 rfl (by decide +kernel) rfl rfl (Nat.le_of_ble_eq_true rfl) rfl ?_
  refine z_aload_n Z dX7_errorPosition_5 0 rfl ?_
  refine z_callVu (rest := []) Z dX7_errorPosition_6 6 0 _ _ rfl rfl rfl (zc_X7_areCommands l D ct (h0) (aS) (aF) (aX) (0) (sg) (sv) (ln) (ta) (f1) (l1) (f2) (l2) (tx) (by first | assumption | omega) (by first | assumption | omega)) (cwV 0 Z.1.2.2.2.2 gX7_errorPosition_X7_areCommands rfl rfl rfl (by decide +kernel) ⟨Nat.le_of_ble_eq_true rfl, Nat.le_of_ble_eq_true rfl⟩) rfl (Nat.le_of_ble_eq_true rfl) ⟨Nat.le_of_ble_eq_true rfl, Nat.le_of_ble_eq_true rfl⟩ [true, false, false, true] [zO h0 6 [zi 0, .ref aS, zi ((sv : Nat) : Int), .ref aF, .ref aX, zi ((ln : Nat) : Int), zi (((acF tx ln (ln + 1) (0, sg, f1, l1, f2, l2)).2.1 : Nat) : Int), zi ((acF tx ln (ln + 1) (0, sg, f1, l1, f2, l2)).2.2.1), zi (((acF tx ln (ln + 1) (0, sg, f1, l1, f2, l2)).2.2.2.1 : Nat) : Int), zi (((acF tx ln (ln + 1) (0, sg, f1, l1, f2, l2)).2.2.2.2.1 : Nat) : Int), zi (((acF tx ln (ln + 1) (0, sg, f1, l1, f2, l2)).2.2.2.2.2.1 : Nat) : Int), zi (((acF tx ln (ln + 1) (0, sg, f1, l1, f2, l2)).2.2.2.2.2.2 : Nat) : Int)], zAI ct aS 3888 g, zAZ ct aF 2 fz, zAI ct aX 80 (zN tx)] [zi (zb (decide ((acF tx ln (ln + 1) (0, sg, f1, l1, f2, l2)).1 = true)))] rfl rfl rfl rfl ?_
  refine z_ifb_eq Z 17 dX7_errorPosition_9 (by decide) (fun h9 => ?_) (fun h9 => ?_)
  · have h9 := of_decide_eq_false h9
    refine z_aload_n Z dX7_errorPosition_17 0 rfl ?_
    refine z_get Z dX7_errorPosition_18 zin_X7_errorPosition_X7 0 6 rfl rfl (by decide) zlk_X7_errorPosition_108 rfl ?_
    refine z_eqs [zO h0 6 [zi 0, .ref aS, zi ((sv : Nat) : Int), .ref aF, .ref aX, zi ((ln : Nat) : Int), zi (((acF tx ln (ln + 1) (0, sg, f1, l1, f2, l2)).2.1 : Nat) : Int), zi ((acF tx ln (ln + 1) (0, sg, f1, l1, f2, l2)).2.2.1), zi (((acF tx ln (ln + 1) (0, sg, f1, l1, f2, l2)).2.2.2.1 : Nat) : Int), zi (((acF tx ln (ln + 1) (0, sg, f1, l1, f2, l2)).2.2.2.2.1 : Nat) : Int), zi (((acF tx ln (ln + 1) (0, sg, f1, l1, f2, l2)).2.2.2.2.2.1 : Nat) : Int), zi (((acF tx ln (ln + 1) (0, sg, f1, l1, f2, l2)).2.2.2.2.2.2 : Nat) : Int)], zAI ct aS 3888 g, zAZ ct aF 2 fz, zAI ct aX 80 (zN tx)] _ [zi (if (acF tx ln (ln + 1) (0, sg, f1, l1, f2, l2)).1 = true then -2 else (((acF tx ln (ln + 1) (0, sg, f1, l1, f2, l2)).2.1 : Nat) : Int))] (rfl) rfl (congrArg (fun z => [zi z]) (by rw [if_neg h9])) ?_
    exact hR _ _ () trivial dX7_errorPosition_21
  · have h9 := of_decide_eq_true h9
    refine z_bipush (v := -2) Z dX7_errorPosition_12 (by decide +kernel) ?_
    refine z_goto Z 21 dX7_errorPosition_14 (by decide) ?_
    refine z_eqs [zO h0 6 [zi 0, .ref aS, zi ((sv : Nat) : Int), .ref aF, .ref aX, zi ((ln : Nat) : Int), zi (((acF tx ln (ln + 1) (0, sg, f1, l1, f2, l2)).2.1 : Nat) : Int), zi ((acF tx ln (ln + 1) (0, sg, f1, l1, f2, l2)).2.2.1), zi (((acF tx ln (ln + 1) (0, sg, f1, l1, f2, l2)).2.2.2.1 : Nat) : Int), zi (((acF tx ln (ln + 1) (0, sg, f1, l1, f2, l2)).2.2.2.2.1 : Nat) : Int), zi (((acF tx ln (ln + 1) (0, sg, f1, l1, f2, l2)).2.2.2.2.2.1 : Nat) : Int), zi (((acF tx ln (ln + 1) (0, sg, f1, l1, f2, l2)).2.2.2.2.2.2 : Nat) : Int)], zAI ct aS 3888 g, zAZ ct aF 2 fz, zAI ct aX 80 (zN tx)] _ [zi (if (acF tx ln (ln + 1) (0, sg, f1, l1, f2, l2)).1 = true then -2 else (((acF tx ln (ln + 1) (0, sg, f1, l1, f2, l2)).2.1 : Nat) : Int))] (rfl) rfl (congrArg (fun z => [zi z]) (by rw [if_pos h9])) ?_
    exact hR _ _ () trivial dX7_errorPosition_21
theorem zin_X7_isDone_X7 : ∀ w ∈ wsX70, w ∈ wsX7_isDone := by decide +kernel
theorem zlk_X7_isDone_117 : Cond.fieldLink RX7 117 "HashedDirectoryModel" "first" "I" ∈ wsX7_isDone := by decide +kernel
theorem zlk_X7_isDone_124 : Cond.fieldLink RX7 124 "HashedDirectoryModel" "firstLength" "I" ∈ wsX7_isDone := by decide +kernel
theorem zlk_X7_isDone_111 : Cond.fieldLink RX7 111 "HashedDirectoryModel" "sign" "I" ∈ wsX7_isDone := by decide +kernel
theorem zlk_X7_isDone_127 : Cond.fieldLink RX7 127 "HashedDirectoryModel" "second" "I" ∈ wsX7_isDone := by decide +kernel
theorem zlk_X7_isDone_130 : Cond.fieldLink RX7 130 "HashedDirectoryModel" "secondLength" "I" ∈ wsX7_isDone := by decide +kernel
theorem zlk_X7_isDone_7 : Cond.fieldLink RX7 7 "HashedDirectoryModel" "s" "[I" ∈ wsX7_isDone := by decide +kernel
set_option maxHeartbeats 4000000 in
set_option maxRecDepth 100000 in
theorem zc_X7_isDone_t (l : Launch) (D : va_G) (ct : zCT) (h0 : Nat) (aS : Nat) (aF : Nat) (aX : Nat) (th : Int) (sg : Int) (sv : Nat) (ln : Nat) (ta : Nat) (f1 : Nat) (l1 : Nat) (f2 : Nat) (l2 : Nat) (g : Nat → Int) (tx : Nat → Nat) (cnt : Nat) (g9 : Nat → Int) (hcn : g 0 = ((cnt : Nat) : Int)) (hc : cnt ≤ 40) (hg : ∀ k, k < 432 → -2 ≤ g k ∧ g k < 70000) (hhs : ∀ k, k < 40 → 0 ≤ mI g k 1 ∧ mI g k 1 < 64) (ht : ∀ j, j < 80 → tx j < 128) (h2 : 0 ≤ g 2 ∧ g 2 < 50000) (h3 : 0 ≤ g 3 ∧ g 3 < 50000) (h1 : 0 ≤ g 1 ∧ g 1 < 2000) (hsg : sg = 43 ∨ sg = 45 ∨ sg = 61) (ha1 : f1 + l1 ≤ 80) (hl1 : l1 ≤ 6) (hw1 : ∀ j, j < l1 → 97 ≤ tx (f1 + j) ∧ tx (f1 + j) ≤ 122) (hx2 : sg = 61 → f2 + l2 ≤ 80 ∧ l2 ≤ 6 ∧ ∀ j, j < l2 → 97 ≤ tx (f2 + j) ∧ tx (f2 + j) ≤ 122) (hok : isD tx sg f1 l1 f2 l2 cnt g = some g9) : zMet l yX7_isDone wsX7_isDone ({ frames := 4, cells := 0, slots := 0, locals := 95 } : Room) D ct [.ref h0] [zO h0 6 [zi th, .ref aS, zi ((sv : Nat) : Int), .ref aF, .ref aX, zi ((ln : Nat) : Int), zi ((ta : Nat) : Int), zi sg, zi ((f1 : Nat) : Int), zi ((l1 : Nat) : Int), zi ((f2 : Nat) : Int), zi ((l2 : Nat) : Int)], zAI ct aS 3888 g, zAI ct aX 80 (zN tx)] (fun _ : Unit => True) (fun _ => some (zi (zb (decide (0 = 0))))) (fun _ => [zO h0 6 [zi th, .ref aS, zi ((sv : Nat) : Int), .ref aF, .ref aX, zi ((ln : Nat) : Int), zi ((ta : Nat) : Int), zi sg, zi ((f1 : Nat) : Int), zi ((l1 : Nat) : Int), zi ((f2 : Nat) : Int), zi ((l2 : Nat) : Int)], zAI ct aS 3888 g9, zAI ct aX 80 (zN tx)]) 0 0 := by
  refine zMet_z (cc := cX7_isDone) (maxL := 3) (r := fun _ => zb (decide (0 = 0))) (by decide) rfl (Nat.le_of_ble_eq_true rfl) (fun _ _ => zb_n _) ?_
  intro p e s m below meth c A Q Z hnm hR
  refine z_eqs _ [(0, .ref h0)] _ rfl rfl rfl ?_
  refine z_aload_n Z dX7_isDone_0 0 rfl ?_
  refine z_aload_n Z dX7_isDone_1 0 rfl ?_
  refine z_get Z dX7_isDone_2 zin_X7_isDone_X7 0 8 rfl rfl (by decide) zlk_X7_isDone_117 rfl ?_
  refine z_aload_n Z dX7_isDone_5 0 rfl ?_
  refine z_get Z dX7_isDone_6 zin_X7_isDone_X7 0 9 rfl rfl (by decide) zlk_X7_isDone_124 rfl ?_
  refine z_callVu (rest := []) Z dX7_isDone_9 6 0 _ _ rfl rfl rfl (zc_X7_placeOfName l D ct (h0) (aS) (aF) (aX) (th) (sg) (sv) (ln) (ta) (f1) (l1) (f2) (l2) (g) (tx) (cnt) (f1) (l1) (by first | assumption | omega) (by first | assumption | omega) (by first | assumption | omega) (by first | assumption | omega) (ha1) (hl1)) (cwV 2 Z.1.2.2.2.2 gX7_isDone_X7_placeOfName rfl rfl rfl (by decide +kernel) ⟨Nat.le_of_ble_eq_true rfl, Nat.le_of_ble_eq_true rfl⟩) rfl (Nat.le_of_ble_eq_true rfl) ⟨Nat.le_of_ble_eq_true rfl, Nat.le_of_ble_eq_true rfl⟩ [true, true, true] [zO h0 6 [zi th, .ref aS, zi ((sv : Nat) : Int), .ref aF, .ref aX, zi ((ln : Nat) : Int), zi ((ta : Nat) : Int), zi sg, zi ((f1 : Nat) : Int), zi ((l1 : Nat) : Int), zi ((f2 : Nat) : Int), zi ((l2 : Nat) : Int)], zAI ct aS 3888 g, zAI ct aX 80 (zN tx)] [zi (fo2 (mN g tx f1 l1) cnt)] rfl rfl rfl rfl ?_
  have hf9 := fo2_rg (mN g tx f1 l1) cnt
  have hf8 := fo2_ge (mN g tx f1 l1) cnt
  have hg1 := hg 1 (by omega)
  refine z_istore_n Z dX7_isDone_12 [(1, zi (fo2 (mN g tx f1 l1) cnt)), (0, .ref h0)] (by decide) rfl ?_
  refine z_aload_n Z dX7_isDone_13 1 rfl ?_
  refine z_get Z dX7_isDone_14 zin_X7_isDone_X7 0 7 rfl rfl (by decide) zlk_X7_isDone_111 rfl ?_
  refine z_bipush (v := 43) Z dX7_isDone_17 (by decide +kernel) ?_
  refine z_icmp_ne Z 85 dX7_isDone_19 (by decide) (by omega) (by omega) (fun h19 => ?_) (fun h19 => ?_)
  · have hr9 := isD_else (by omega) hok
    refine z_iload_n Z dX7_isDone_85 0 rfl ?_
    refine z_bipush (v := -2) Z dX7_isDone_86 (by decide +kernel) ?_
    refine z_icmp_eq Z 115 dX7_isDone_88 (by decide) (by omega) (by omega) (fun h88 => ?_) (fun h88 => ?_)
    · exfalso; first | contradiction | omega
    · refine z_aload_n Z dX7_isDone_91 1 rfl ?_
      refine z_get Z dX7_isDone_92 zin_X7_isDone_X7 0 7 rfl rfl (by decide) zlk_X7_isDone_111 rfl ?_
      refine z_bipush (v := 61) Z dX7_isDone_95 (by decide +kernel) ?_
      refine z_icmp_ne Z 117 dX7_isDone_97 (by decide) (by omega) (by omega) (fun h97 => ?_) (fun h97 => ?_)
      · refine z_aload_n Z dX7_isDone_117 1 rfl ?_
        refine z_iload_n Z dX7_isDone_118 0 rfl ?_
        have hs9 := hhs (fo2 (mN g tx f1 l1) cnt).toNat (by omega)
        refine z_top (y := (((fo2 (mN g tx f1 l1) cnt).toNat : Nat) : Int)) (by omega) ?_
        refine z_callVu (rest := []) Z dX7_isDone_119 6 0 _ _ rfl rfl rfl (zc_X7_takesOut l D ct (h0) (aS) (aF) (aX) (th) (sg) (sv) (ln) (ta) (f1) (l1) (f2) (l2) (g) (cnt) ((fo2 (mN g tx f1 l1) cnt).toNat) (by first | assumption | omega) (by first | assumption | omega) (by first | assumption | omega) (by first | assumption | omega) (by omega) (by omega) (by omega)) (cwV 1 Z.1.2.2.2.2 gX7_isDone_X7_takesOut rfl rfl rfl (by decide +kernel) ⟨Nat.le_of_ble_eq_true rfl, Nat.le_of_ble_eq_true rfl⟩) rfl (Nat.le_of_ble_eq_true rfl) ⟨Nat.le_of_ble_eq_true rfl, Nat.le_of_ble_eq_true rfl⟩ [true, true, false] [zO h0 6 [zi th, .ref aS, zi ((sv : Nat) : Int), .ref aF, .ref aX, zi ((ln : Nat) : Int), zi ((ta : Nat) : Int), zi sg, zi ((f1 : Nat) : Int), zi ((l1 : Nat) : Int), zi ((f2 : Nat) : Int), zi ((l2 : Nat) : Int)], zAI ct aS 3888 (mtR g cnt ((fo2 (mN g tx f1 l1) cnt).toNat)), zAI ct aX 80 (zN tx)] [] rfl rfl rfl rfl ?_
        refine z_aload_n Z dX7_isDone_122 1 rfl ?_
        refine z_get Z dX7_isDone_123 zin_X7_isDone_X7 0 7 rfl rfl (by decide) zlk_X7_isDone_111 rfl ?_
        refine z_bipush (v := 45) Z dX7_isDone_126 (by decide +kernel) ?_
        refine z_icmp_eq Z 146 dX7_isDone_128 (by decide) (by omega) (by omega) (fun h128 => ?_) (fun h128 => ?_)
        · refine z_iconst (v := 1) Z dX7_isDone_146 rfl ?_
          refine z_goto Z 151 dX7_isDone_147 (by decide) ?_
          refine z_eqs [zO h0 6 [zi th, .ref aS, zi ((sv : Nat) : Int), .ref aF, .ref aX, zi ((ln : Nat) : Int), zi ((ta : Nat) : Int), zi sg, zi ((f1 : Nat) : Int), zi ((l1 : Nat) : Int), zi ((f2 : Nat) : Int), zi ((l2 : Nat) : Int)], zAI ct aS 3888 g9, zAI ct aX 80 (zN tx)] _ [zi (zb (decide (0 = 0)))] (by rw [isD_sub (by omega) hok]) rfl (congrArg (fun z => [zi z]) (zb_p _ (by omega))) ?_
          exact hR _ _ () trivial dX7_isDone_151
        · exfalso; first | contradiction | omega
      · have hx3 := hx2 (by omega)
        have hg9 := fo2_rg (mN g tx f2 l2) cnt
        refine z_aload_n Z dX7_isDone_100 1 rfl ?_
        refine z_aload_n Z dX7_isDone_101 1 rfl ?_
        refine z_get Z dX7_isDone_102 zin_X7_isDone_X7 0 10 rfl rfl (by decide) zlk_X7_isDone_127 rfl ?_
        refine z_aload_n Z dX7_isDone_105 1 rfl ?_
        refine z_get Z dX7_isDone_106 zin_X7_isDone_X7 0 11 rfl rfl (by decide) zlk_X7_isDone_130 rfl ?_
        refine z_callVu (rest := []) Z dX7_isDone_109 6 0 _ _ rfl rfl rfl (zc_X7_canMake l D ct (h0) (aS) (aF) (aX) (th) (sg) (sv) (ln) (ta) (f1) (l1) (f2) (l2) (g) (tx) (cnt) (f2) (l2) (by first | assumption | omega) (by first | assumption | omega) (by first | assumption | omega) (by first | assumption | omega) (hx3.1) (hx3.2.1)) (cwV 2 Z.1.2.2.2.2 gX7_isDone_X7_canMake rfl rfl rfl (by decide +kernel) ⟨Nat.le_of_ble_eq_true rfl, Nat.le_of_ble_eq_true rfl⟩) rfl (Nat.le_of_ble_eq_true rfl) ⟨Nat.le_of_ble_eq_true rfl, Nat.le_of_ble_eq_true rfl⟩ [true, true, true] [zO h0 6 [zi th, .ref aS, zi ((sv : Nat) : Int), .ref aF, .ref aX, zi ((ln : Nat) : Int), zi ((ta : Nat) : Int), zi sg, zi ((f1 : Nat) : Int), zi ((l1 : Nat) : Int), zi ((f2 : Nat) : Int), zi ((l2 : Nat) : Int)], zAI ct aS 3888 g, zAI ct aX 80 (zN tx)] [zi (zb (decide (fo2 (mN g tx f2 l2) cnt = -2 ∧ g 1 < 1000)))] rfl rfl rfl rfl ?_
        refine z_ifb_ne Z 117 dX7_isDone_112 (by decide) (fun h112 => ?_) (fun h112 => ?_)
        · have h112 := of_decide_eq_true h112
          refine z_aload_n Z dX7_isDone_117 1 rfl ?_
          refine z_iload_n Z dX7_isDone_118 0 rfl ?_
          have hs9 := hhs (fo2 (mN g tx f1 l1) cnt).toNat (by omega)
          refine z_top (y := (((fo2 (mN g tx f1 l1) cnt).toNat : Nat) : Int)) (by omega) ?_
          refine z_callVu (rest := []) Z dX7_isDone_119 6 0 _ _ rfl rfl rfl (zc_X7_takesOut l D ct (h0) (aS) (aF) (aX) (th) (sg) (sv) (ln) (ta) (f1) (l1) (f2) (l2) (g) (cnt) ((fo2 (mN g tx f1 l1) cnt).toNat) (by first | assumption | omega) (by first | assumption | omega) (by first | assumption | omega) (by first | assumption | omega) (by omega) (by omega) (by omega)) (cwV 1 Z.1.2.2.2.2 gX7_isDone_X7_takesOut rfl rfl rfl (by decide +kernel) ⟨Nat.le_of_ble_eq_true rfl, Nat.le_of_ble_eq_true rfl⟩) rfl (Nat.le_of_ble_eq_true rfl) ⟨Nat.le_of_ble_eq_true rfl, Nat.le_of_ble_eq_true rfl⟩ [true, true, false] [zO h0 6 [zi th, .ref aS, zi ((sv : Nat) : Int), .ref aF, .ref aX, zi ((ln : Nat) : Int), zi ((ta : Nat) : Int), zi sg, zi ((f1 : Nat) : Int), zi ((l1 : Nat) : Int), zi ((f2 : Nat) : Int), zi ((l2 : Nat) : Int)], zAI ct aS 3888 (mtR g cnt ((fo2 (mN g tx f1 l1) cnt).toNat)), zAI ct aX 80 (zN tx)] [] rfl rfl rfl rfl ?_
          refine z_aload_n Z dX7_isDone_122 1 rfl ?_
          refine z_get Z dX7_isDone_123 zin_X7_isDone_X7 0 7 rfl rfl (by decide) zlk_X7_isDone_111 rfl ?_
          refine z_bipush (v := 45) Z dX7_isDone_126 (by decide +kernel) ?_
          refine z_icmp_eq Z 146 dX7_isDone_128 (by decide) (by omega) (by omega) (fun h128 => ?_) (fun h128 => ?_)
          · exfalso; first | contradiction | omega
          · refine z_aload_n Z dX7_isDone_131 1 rfl ?_
            refine z_aload_n Z dX7_isDone_132 1 rfl ?_
            refine z_get Z dX7_isDone_133 zin_X7_isDone_X7 0 10 rfl rfl (by decide) zlk_X7_isDone_127 rfl ?_
            refine z_aload_n Z dX7_isDone_136 1 rfl ?_
            refine z_get Z dX7_isDone_137 zin_X7_isDone_X7 0 11 rfl rfl (by decide) zlk_X7_isDone_130 rfl ?_
            refine z_callVu (rest := []) Z dX7_isDone_140 6 0 _ _ rfl rfl rfl (zc_X7_makes l D ct (h0) (aS) (aF) (aX) (th) (sg) (sv) (ln) (ta) (f1) (l1) (f2) (l2) (mtR g cnt ((fo2 (mN g tx f1 l1) cnt).toNat)) (tx) (cnt - 1) (f2) (l2) (mtR_0 _ _ _ (mI_h hhs (by omega))) (by omega) (mtR_rg hg hc h3 (mI_h hhs (by omega))) (mtR_hs hhs hc (mI_h hhs (by omega))) (ht) (hx3.1) (hx3.2.1) (hx3.2.2) (by rw [mtR_1 _ _ _ (mI_h hhs (by omega))]; omega) (by rw [mtR_2 _ _ _ (mI_h hhs (by omega))]; omega) (mtR_3 _ _ _ hc h3 (mI_h hhs (by omega)))) (cwV 2 Z.1.2.2.2.2 gX7_isDone_X7_makes rfl rfl rfl (by decide +kernel) ⟨Nat.le_of_ble_eq_true rfl, Nat.le_of_ble_eq_true rfl⟩) rfl (Nat.le_of_ble_eq_true rfl) ⟨Nat.le_of_ble_eq_true rfl, Nat.le_of_ble_eq_true rfl⟩ [true, true, true] [zO h0 6 [zi th, .ref aS, zi ((sv : Nat) : Int), .ref aF, .ref aX, zi ((ln : Nat) : Int), zi ((ta : Nat) : Int), zi sg, zi ((f1 : Nat) : Int), zi ((l1 : Nat) : Int), zi ((f2 : Nat) : Int), zi ((l2 : Nat) : Int)], zAI ct aS 3888 (mkR (mtR g cnt ((fo2 (mN g tx f1 l1) cnt).toNat)) tx f2 l2 (cnt - 1)), zAI ct aX 80 (zN tx)] [zi ((mtR g cnt ((fo2 (mN g tx f1 l1) cnt).toNat)) 1)] rfl rfl rfl rfl ?_
            have hm1 := mtR_1 g cnt (fo2 (mN g tx f1 l1) cnt).toNat (mI_h hhs (by omega))
            refine z_if_lt Z 150 dX7_isDone_143 (by decide) (by omega) (fun h143 => ?_) (fun h143 => ?_)
            · exfalso; first | contradiction | omega
            · refine z_iconst (v := 1) Z dX7_isDone_146 rfl ?_
              refine z_goto Z 151 dX7_isDone_147 (by decide) ?_
              refine z_eqs [zO h0 6 [zi th, .ref aS, zi ((sv : Nat) : Int), .ref aF, .ref aX, zi ((ln : Nat) : Int), zi ((ta : Nat) : Int), zi sg, zi ((f1 : Nat) : Int), zi ((l1 : Nat) : Int), zi ((f2 : Nat) : Int), zi ((l2 : Nat) : Int)], zAI ct aS 3888 g9, zAI ct aX 80 (zN tx)] _ [zi (zb (decide (0 = 0)))] (by rw [isD_ren (by omega) hok]) rfl (congrArg (fun z => [zi z]) (zb_p _ (by omega))) ?_
              exact hR _ _ () trivial dX7_isDone_151
        · have h112 := of_decide_eq_false h112
          exfalso; have := hr9.2 (by omega); omega
  · have hr9 := isD_add (by omega) hok
    refine z_iload_n Z dX7_isDone_22 0 rfl ?_
    refine z_bipush (v := -2) Z dX7_isDone_23 (by decide +kernel) ?_
    refine z_icmp_ne Z 58 dX7_isDone_25 (by decide) (by omega) (by omega) (fun h25 => ?_) (fun h25 => ?_)
    · exfalso; first | contradiction | omega
    · refine z_aload_n Z dX7_isDone_28 1 rfl ?_
      refine z_aload_n Z dX7_isDone_29 1 rfl ?_
      refine z_get Z dX7_isDone_30 zin_X7_isDone_X7 0 8 rfl rfl (by decide) zlk_X7_isDone_117 rfl ?_
      refine z_aload_n Z dX7_isDone_33 1 rfl ?_
      refine z_get Z dX7_isDone_34 zin_X7_isDone_X7 0 9 rfl rfl (by decide) zlk_X7_isDone_124 rfl ?_
      refine z_callVu (rest := []) Z dX7_isDone_37 6 0 _ _ rfl rfl rfl (zc_X7_canMake l D ct (h0) (aS) (aF) (aX) (th) (sg) (sv) (ln) (ta) (f1) (l1) (f2) (l2) (g) (tx) (cnt) (f1) (l1) (by first | assumption | omega) (by first | assumption | omega) (by first | assumption | omega) (by first | assumption | omega) (ha1) (hl1)) (cwV 2 Z.1.2.2.2.2 gX7_isDone_X7_canMake rfl rfl rfl (by decide +kernel) ⟨Nat.le_of_ble_eq_true rfl, Nat.le_of_ble_eq_true rfl⟩) rfl (Nat.le_of_ble_eq_true rfl) ⟨Nat.le_of_ble_eq_true rfl, Nat.le_of_ble_eq_true rfl⟩ [true, true, true] [zO h0 6 [zi th, .ref aS, zi ((sv : Nat) : Int), .ref aF, .ref aX, zi ((ln : Nat) : Int), zi ((ta : Nat) : Int), zi sg, zi ((f1 : Nat) : Int), zi ((l1 : Nat) : Int), zi ((f2 : Nat) : Int), zi ((l2 : Nat) : Int)], zAI ct aS 3888 g, zAI ct aX 80 (zN tx)] [zi (zb (decide (fo2 (mN g tx f1 l1) cnt = -2 ∧ g 1 < 1000)))] rfl rfl rfl rfl ?_
      refine z_ifb_eq Z 58 dX7_isDone_40 (by decide) (fun h40 => ?_) (fun h40 => ?_)
      · have h40 := of_decide_eq_false h40
        exfalso; first | contradiction | omega
      · have h40 := of_decide_eq_true h40
        refine z_aload_n Z dX7_isDone_43 1 rfl ?_
        refine z_get Z dX7_isDone_44 zin_X7_isDone_X7 0 1 rfl rfl (by decide) zlk_X7_isDone_7 rfl ?_
        refine z_iconst (v := 0) Z dX7_isDone_47 rfl ?_
        refine z_iald Z dX7_isDone_48 1 (0) rfl (by omega) ⟨by omega, by omega⟩ ?_
        have he1 := hg (0) (by omega)
        refine z_bipush (v := 40) Z dX7_isDone_49 (by decide +kernel) ?_
        refine z_icmp_ge Z 58 dX7_isDone_51 (by decide) (by omega) (by omega) (fun h51 => ?_) (fun h51 => ?_)
        · exfalso; first | contradiction | omega
        · refine z_iconst (v := 1) Z dX7_isDone_54 rfl ?_
          refine z_goto Z 59 dX7_isDone_55 (by decide) ?_
          refine z_istore_n Z dX7_isDone_59 [(2, zi 1), (1, zi (fo2 (mN g tx f1 l1) cnt)), (0, .ref h0)] (by decide) rfl ?_
          refine z_iload_n Z dX7_isDone_60 0 rfl ?_
          refine z_if_eq Z 83 dX7_isDone_61 (by decide) (by omega) (fun h61 => ?_) (fun h61 => ?_)
          · exfalso; first | contradiction | omega
          · refine z_aload_n Z dX7_isDone_64 2 rfl ?_
            refine z_aload_n Z dX7_isDone_65 2 rfl ?_
            refine z_get Z dX7_isDone_66 zin_X7_isDone_X7 0 8 rfl rfl (by decide) zlk_X7_isDone_117 rfl ?_
            refine z_aload_n Z dX7_isDone_69 2 rfl ?_
            refine z_get Z dX7_isDone_70 zin_X7_isDone_X7 0 9 rfl rfl (by decide) zlk_X7_isDone_124 rfl ?_
            refine z_callVu (rest := []) Z dX7_isDone_73 6 0 _ _ rfl rfl rfl (zc_X7_makes l D ct (h0) (aS) (aF) (aX) (th) (sg) (sv) (ln) (ta) (f1) (l1) (f2) (l2) (g) (tx) (cnt) (f1) (l1) (by first | assumption | omega) (by first | assumption | omega) (by first | assumption | omega) (by first | assumption | omega) (by first | assumption | omega) (ha1) (hl1) (hw1) (by first | assumption | omega) (by omega) (by omega)) (cwV 2 Z.1.2.2.2.2 gX7_isDone_X7_makes rfl rfl rfl (by decide +kernel) ⟨Nat.le_of_ble_eq_true rfl, Nat.le_of_ble_eq_true rfl⟩) rfl (Nat.le_of_ble_eq_true rfl) ⟨Nat.le_of_ble_eq_true rfl, Nat.le_of_ble_eq_true rfl⟩ [true, true, true] [zO h0 6 [zi th, .ref aS, zi ((sv : Nat) : Int), .ref aF, .ref aX, zi ((ln : Nat) : Int), zi ((ta : Nat) : Int), zi sg, zi ((f1 : Nat) : Int), zi ((l1 : Nat) : Int), zi ((f2 : Nat) : Int), zi ((l2 : Nat) : Int)], zAI ct aS 3888 (mkR g tx f1 l1 cnt), zAI ct aX 80 (zN tx)] [zi (g 1)] rfl rfl rfl rfl ?_
            refine z_if_lt Z 83 dX7_isDone_76 (by decide) (by omega) (fun h76 => ?_) (fun h76 => ?_)
            · exfalso; first | contradiction | omega
            · refine z_iconst (v := 1) Z dX7_isDone_79 rfl ?_
              refine z_goto Z 84 dX7_isDone_80 (by decide) ?_
              refine z_eqs [zO h0 6 [zi th, .ref aS, zi ((sv : Nat) : Int), .ref aF, .ref aX, zi ((ln : Nat) : Int), zi ((ta : Nat) : Int), zi sg, zi ((f1 : Nat) : Int), zi ((l1 : Nat) : Int), zi ((f2 : Nat) : Int), zi ((l2 : Nat) : Int)], zAI ct aS 3888 g9, zAI ct aX 80 (zN tx)] _ [zi (zb (decide (0 = 0)))] (by rw [hr9.2]) rfl (congrArg (fun z => [zi z]) (zb_p _ (by omega))) ?_
              exact hR _ _ () trivial dX7_isDone_84
set_option maxHeartbeats 4000000 in
set_option maxRecDepth 100000 in
theorem zc_X7_isDone_f (l : Launch) (D : va_G) (ct : zCT) (h0 : Nat) (aS : Nat) (aF : Nat) (aX : Nat) (th : Int) (sg : Int) (sv : Nat) (ln : Nat) (ta : Nat) (f1 : Nat) (l1 : Nat) (f2 : Nat) (l2 : Nat) (g : Nat → Int) (tx : Nat → Nat) (cnt : Nat) (hcn : g 0 = ((cnt : Nat) : Int)) (hc : cnt ≤ 40) (hg : ∀ k, k < 432 → -2 ≤ g k ∧ g k < 70000) (hhs : ∀ k, k < 40 → 0 ≤ mI g k 1 ∧ mI g k 1 < 64) (ht : ∀ j, j < 80 → tx j < 128) (h2 : 0 ≤ g 2 ∧ g 2 < 50000) (h3 : 0 ≤ g 3 ∧ g 3 < 50000) (h1 : 0 ≤ g 1 ∧ g 1 < 2000) (hsg : sg = 43 ∨ sg = 45 ∨ sg = 61) (ha1 : f1 + l1 ≤ 80) (hl1 : l1 ≤ 6) (hw1 : ∀ j, j < l1 → 97 ≤ tx (f1 + j) ∧ tx (f1 + j) ≤ 122) (hx2 : sg = 61 → f2 + l2 ≤ 80 ∧ l2 ≤ 6 ∧ ∀ j, j < l2 → 97 ≤ tx (f2 + j) ∧ tx (f2 + j) ≤ 122) (hok : isD tx sg f1 l1 f2 l2 cnt g = none) : zMet l yX7_isDone wsX7_isDone ({ frames := 3, cells := 0, slots := 0, locals := 69 } : Room) D ct [.ref h0] [zO h0 6 [zi th, .ref aS, zi ((sv : Nat) : Int), .ref aF, .ref aX, zi ((ln : Nat) : Int), zi ((ta : Nat) : Int), zi sg, zi ((f1 : Nat) : Int), zi ((l1 : Nat) : Int), zi ((f2 : Nat) : Int), zi ((l2 : Nat) : Int)], zAI ct aS 3888 g, zAI ct aX 80 (zN tx)] (fun _ : Unit => True) (fun _ => some (zi (zb (decide (1 = 0))))) (fun _ => [zO h0 6 [zi th, .ref aS, zi ((sv : Nat) : Int), .ref aF, .ref aX, zi ((ln : Nat) : Int), zi ((ta : Nat) : Int), zi sg, zi ((f1 : Nat) : Int), zi ((l1 : Nat) : Int), zi ((f2 : Nat) : Int), zi ((l2 : Nat) : Int)], zAI ct aS 3888 g, zAI ct aX 80 (zN tx)]) 0 0 := by
  refine zMet_z (cc := cX7_isDone) (maxL := 3) (r := fun _ => zb (decide (1 = 0))) (by decide) rfl (Nat.le_of_ble_eq_true rfl) (fun _ _ => zb_n _) ?_
  intro p e s m below meth c A Q Z hnm hR
  refine z_eqs _ [(0, .ref h0)] _ rfl rfl rfl ?_
  refine z_aload_n Z dX7_isDone_0 0 rfl ?_
  refine z_aload_n Z dX7_isDone_1 0 rfl ?_
  refine z_get Z dX7_isDone_2 zin_X7_isDone_X7 0 8 rfl rfl (by decide) zlk_X7_isDone_117 rfl ?_
  refine z_aload_n Z dX7_isDone_5 0 rfl ?_
  refine z_get Z dX7_isDone_6 zin_X7_isDone_X7 0 9 rfl rfl (by decide) zlk_X7_isDone_124 rfl ?_
  refine z_callVu (rest := []) Z dX7_isDone_9 6 0 _ _ rfl rfl rfl (zc_X7_placeOfName l D ct (h0) (aS) (aF) (aX) (th) (sg) (sv) (ln) (ta) (f1) (l1) (f2) (l2) (g) (tx) (cnt) (f1) (l1) (by first | assumption | omega) (by first | assumption | omega) (by first | assumption | omega) (by first | assumption | omega) (ha1) (hl1)) (cwV 2 Z.1.2.2.2.2 gX7_isDone_X7_placeOfName rfl rfl rfl (by decide +kernel) ⟨Nat.le_of_ble_eq_true rfl, Nat.le_of_ble_eq_true rfl⟩) rfl (Nat.le_of_ble_eq_true rfl) ⟨Nat.le_of_ble_eq_true rfl, Nat.le_of_ble_eq_true rfl⟩ [true, true, true] [zO h0 6 [zi th, .ref aS, zi ((sv : Nat) : Int), .ref aF, .ref aX, zi ((ln : Nat) : Int), zi ((ta : Nat) : Int), zi sg, zi ((f1 : Nat) : Int), zi ((l1 : Nat) : Int), zi ((f2 : Nat) : Int), zi ((l2 : Nat) : Int)], zAI ct aS 3888 g, zAI ct aX 80 (zN tx)] [zi (fo2 (mN g tx f1 l1) cnt)] rfl rfl rfl rfl ?_
  have hf9 := fo2_rg (mN g tx f1 l1) cnt
  have hf8 := fo2_ge (mN g tx f1 l1) cnt
  have hg1 := hg 1 (by omega)
  refine z_istore_n Z dX7_isDone_12 [(1, zi (fo2 (mN g tx f1 l1) cnt)), (0, .ref h0)] (by decide) rfl ?_
  refine z_aload_n Z dX7_isDone_13 1 rfl ?_
  refine z_get Z dX7_isDone_14 zin_X7_isDone_X7 0 7 rfl rfl (by decide) zlk_X7_isDone_111 rfl ?_
  refine z_bipush (v := 43) Z dX7_isDone_17 (by decide +kernel) ?_
  refine z_icmp_ne Z 85 dX7_isDone_19 (by decide) (by omega) (by omega) (fun h19 => ?_) (fun h19 => ?_)
  · have hr9 := isD_elseN (by omega) hok
    refine z_iload_n Z dX7_isDone_85 0 rfl ?_
    refine z_bipush (v := -2) Z dX7_isDone_86 (by decide +kernel) ?_
    refine z_icmp_eq Z 115 dX7_isDone_88 (by decide) (by omega) (by omega) (fun h88 => ?_) (fun h88 => ?_)
    · refine z_iconst (v := 0) Z dX7_isDone_115 rfl ?_
      refine z_eqs [zO h0 6 [zi th, .ref aS, zi ((sv : Nat) : Int), .ref aF, .ref aX, zi ((ln : Nat) : Int), zi ((ta : Nat) : Int), zi sg, zi ((f1 : Nat) : Int), zi ((l1 : Nat) : Int), zi ((f2 : Nat) : Int), zi ((l2 : Nat) : Int)], zAI ct aS 3888 g, zAI ct aX 80 (zN tx)] _ [zi (zb (decide (1 = 0)))] (rfl) rfl (congrArg (fun z => [zi z]) (zb_np _ (by omega))) ?_
      exact hR _ _ () trivial dX7_isDone_116
    · refine z_aload_n Z dX7_isDone_91 1 rfl ?_
      refine z_get Z dX7_isDone_92 zin_X7_isDone_X7 0 7 rfl rfl (by decide) zlk_X7_isDone_111 rfl ?_
      refine z_bipush (v := 61) Z dX7_isDone_95 (by decide +kernel) ?_
      refine z_icmp_ne Z 117 dX7_isDone_97 (by decide) (by omega) (by omega) (fun h97 => ?_) (fun h97 => ?_)
      · exfalso; have := hr9 (by omega); omega
      · have hx3 := hx2 (by omega)
        have hg9 := fo2_rg (mN g tx f2 l2) cnt
        refine z_aload_n Z dX7_isDone_100 1 rfl ?_
        refine z_aload_n Z dX7_isDone_101 1 rfl ?_
        refine z_get Z dX7_isDone_102 zin_X7_isDone_X7 0 10 rfl rfl (by decide) zlk_X7_isDone_127 rfl ?_
        refine z_aload_n Z dX7_isDone_105 1 rfl ?_
        refine z_get Z dX7_isDone_106 zin_X7_isDone_X7 0 11 rfl rfl (by decide) zlk_X7_isDone_130 rfl ?_
        refine z_callVu (rest := []) Z dX7_isDone_109 6 0 _ _ rfl rfl rfl (zc_X7_canMake l D ct (h0) (aS) (aF) (aX) (th) (sg) (sv) (ln) (ta) (f1) (l1) (f2) (l2) (g) (tx) (cnt) (f2) (l2) (by first | assumption | omega) (by first | assumption | omega) (by first | assumption | omega) (by first | assumption | omega) (hx3.1) (hx3.2.1)) (cwV 2 Z.1.2.2.2.2 gX7_isDone_X7_canMake rfl rfl rfl (by decide +kernel) ⟨Nat.le_of_ble_eq_true rfl, Nat.le_of_ble_eq_true rfl⟩) rfl (Nat.le_of_ble_eq_true rfl) ⟨Nat.le_of_ble_eq_true rfl, Nat.le_of_ble_eq_true rfl⟩ [true, true, true] [zO h0 6 [zi th, .ref aS, zi ((sv : Nat) : Int), .ref aF, .ref aX, zi ((ln : Nat) : Int), zi ((ta : Nat) : Int), zi sg, zi ((f1 : Nat) : Int), zi ((l1 : Nat) : Int), zi ((f2 : Nat) : Int), zi ((l2 : Nat) : Int)], zAI ct aS 3888 g, zAI ct aX 80 (zN tx)] [zi (zb (decide (fo2 (mN g tx f2 l2) cnt = -2 ∧ g 1 < 1000)))] rfl rfl rfl rfl ?_
        refine z_ifb_ne Z 117 dX7_isDone_112 (by decide) (fun h112 => ?_) (fun h112 => ?_)
        · have h112 := of_decide_eq_true h112
          exfalso; have := hr9 (by omega); omega
        · have h112 := of_decide_eq_false h112
          refine z_iconst (v := 0) Z dX7_isDone_115 rfl ?_
          refine z_eqs [zO h0 6 [zi th, .ref aS, zi ((sv : Nat) : Int), .ref aF, .ref aX, zi ((ln : Nat) : Int), zi ((ta : Nat) : Int), zi sg, zi ((f1 : Nat) : Int), zi ((l1 : Nat) : Int), zi ((f2 : Nat) : Int), zi ((l2 : Nat) : Int)], zAI ct aS 3888 g, zAI ct aX 80 (zN tx)] _ [zi (zb (decide (1 = 0)))] (rfl) rfl (congrArg (fun z => [zi z]) (zb_np _ (by omega))) ?_
          exact hR _ _ () trivial dX7_isDone_116
  · have hr9 := isD_addN (by omega) hok
    refine z_iload_n Z dX7_isDone_22 0 rfl ?_
    refine z_bipush (v := -2) Z dX7_isDone_23 (by decide +kernel) ?_
    refine z_icmp_ne Z 58 dX7_isDone_25 (by decide) (by omega) (by omega) (fun h25 => ?_) (fun h25 => ?_)
    · refine z_iconst (v := 0) Z dX7_isDone_58 rfl ?_
      refine z_istore_n Z dX7_isDone_59 [(2, zi 0), (1, zi (fo2 (mN g tx f1 l1) cnt)), (0, .ref h0)] (by decide) rfl ?_
      refine z_iload_n Z dX7_isDone_60 0 rfl ?_
      refine z_if_eq Z 83 dX7_isDone_61 (by decide) (by omega) (fun h61 => ?_) (fun h61 => ?_)
      · refine z_iconst (v := 0) Z dX7_isDone_83 rfl ?_
        refine z_eqs [zO h0 6 [zi th, .ref aS, zi ((sv : Nat) : Int), .ref aF, .ref aX, zi ((ln : Nat) : Int), zi ((ta : Nat) : Int), zi sg, zi ((f1 : Nat) : Int), zi ((l1 : Nat) : Int), zi ((f2 : Nat) : Int), zi ((l2 : Nat) : Int)], zAI ct aS 3888 g, zAI ct aX 80 (zN tx)] _ [zi (zb (decide (1 = 0)))] (rfl) rfl (congrArg (fun z => [zi z]) (zb_np _ (by omega))) ?_
        exact hR _ _ () trivial dX7_isDone_84
      · exfalso; first | contradiction | omega
    · refine z_aload_n Z dX7_isDone_28 1 rfl ?_
      refine z_aload_n Z dX7_isDone_29 1 rfl ?_
      refine z_get Z dX7_isDone_30 zin_X7_isDone_X7 0 8 rfl rfl (by decide) zlk_X7_isDone_117 rfl ?_
      refine z_aload_n Z dX7_isDone_33 1 rfl ?_
      refine z_get Z dX7_isDone_34 zin_X7_isDone_X7 0 9 rfl rfl (by decide) zlk_X7_isDone_124 rfl ?_
      refine z_callVu (rest := []) Z dX7_isDone_37 6 0 _ _ rfl rfl rfl (zc_X7_canMake l D ct (h0) (aS) (aF) (aX) (th) (sg) (sv) (ln) (ta) (f1) (l1) (f2) (l2) (g) (tx) (cnt) (f1) (l1) (by first | assumption | omega) (by first | assumption | omega) (by first | assumption | omega) (by first | assumption | omega) (ha1) (hl1)) (cwV 2 Z.1.2.2.2.2 gX7_isDone_X7_canMake rfl rfl rfl (by decide +kernel) ⟨Nat.le_of_ble_eq_true rfl, Nat.le_of_ble_eq_true rfl⟩) rfl (Nat.le_of_ble_eq_true rfl) ⟨Nat.le_of_ble_eq_true rfl, Nat.le_of_ble_eq_true rfl⟩ [true, true, true] [zO h0 6 [zi th, .ref aS, zi ((sv : Nat) : Int), .ref aF, .ref aX, zi ((ln : Nat) : Int), zi ((ta : Nat) : Int), zi sg, zi ((f1 : Nat) : Int), zi ((l1 : Nat) : Int), zi ((f2 : Nat) : Int), zi ((l2 : Nat) : Int)], zAI ct aS 3888 g, zAI ct aX 80 (zN tx)] [zi (zb (decide (fo2 (mN g tx f1 l1) cnt = -2 ∧ g 1 < 1000)))] rfl rfl rfl rfl ?_
      refine z_ifb_eq Z 58 dX7_isDone_40 (by decide) (fun h40 => ?_) (fun h40 => ?_)
      · have h40 := of_decide_eq_false h40
        refine z_iconst (v := 0) Z dX7_isDone_58 rfl ?_
        refine z_istore_n Z dX7_isDone_59 [(2, zi 0), (1, zi (fo2 (mN g tx f1 l1) cnt)), (0, .ref h0)] (by decide) rfl ?_
        refine z_iload_n Z dX7_isDone_60 0 rfl ?_
        refine z_if_eq Z 83 dX7_isDone_61 (by decide) (by omega) (fun h61 => ?_) (fun h61 => ?_)
        · refine z_iconst (v := 0) Z dX7_isDone_83 rfl ?_
          refine z_eqs [zO h0 6 [zi th, .ref aS, zi ((sv : Nat) : Int), .ref aF, .ref aX, zi ((ln : Nat) : Int), zi ((ta : Nat) : Int), zi sg, zi ((f1 : Nat) : Int), zi ((l1 : Nat) : Int), zi ((f2 : Nat) : Int), zi ((l2 : Nat) : Int)], zAI ct aS 3888 g, zAI ct aX 80 (zN tx)] _ [zi (zb (decide (1 = 0)))] (rfl) rfl (congrArg (fun z => [zi z]) (zb_np _ (by omega))) ?_
          exact hR _ _ () trivial dX7_isDone_84
        · exfalso; first | contradiction | omega
      · have h40 := of_decide_eq_true h40
        refine z_aload_n Z dX7_isDone_43 1 rfl ?_
        refine z_get Z dX7_isDone_44 zin_X7_isDone_X7 0 1 rfl rfl (by decide) zlk_X7_isDone_7 rfl ?_
        refine z_iconst (v := 0) Z dX7_isDone_47 rfl ?_
        refine z_iald Z dX7_isDone_48 1 (0) rfl (by omega) ⟨by omega, by omega⟩ ?_
        have he1 := hg (0) (by omega)
        refine z_bipush (v := 40) Z dX7_isDone_49 (by decide +kernel) ?_
        refine z_icmp_ge Z 58 dX7_isDone_51 (by decide) (by omega) (by omega) (fun h51 => ?_) (fun h51 => ?_)
        · refine z_iconst (v := 0) Z dX7_isDone_58 rfl ?_
          refine z_istore_n Z dX7_isDone_59 [(2, zi 0), (1, zi (fo2 (mN g tx f1 l1) cnt)), (0, .ref h0)] (by decide) rfl ?_
          refine z_iload_n Z dX7_isDone_60 0 rfl ?_
          refine z_if_eq Z 83 dX7_isDone_61 (by decide) (by omega) (fun h61 => ?_) (fun h61 => ?_)
          · refine z_iconst (v := 0) Z dX7_isDone_83 rfl ?_
            refine z_eqs [zO h0 6 [zi th, .ref aS, zi ((sv : Nat) : Int), .ref aF, .ref aX, zi ((ln : Nat) : Int), zi ((ta : Nat) : Int), zi sg, zi ((f1 : Nat) : Int), zi ((l1 : Nat) : Int), zi ((f2 : Nat) : Int), zi ((l2 : Nat) : Int)], zAI ct aS 3888 g, zAI ct aX 80 (zN tx)] _ [zi (zb (decide (1 = 0)))] (rfl) rfl (congrArg (fun z => [zi z]) (zb_np _ (by omega))) ?_
            exact hR _ _ () trivial dX7_isDone_84
          · exfalso; first | contradiction | omega
        · exfalso; first | contradiction | omega
set_option maxHeartbeats 4000000 in
set_option maxRecDepth 100000 in
theorem zc_X7_runText_1 (l : Launch) (D : va_G) (ct : zCT) (h0 : Nat) (aS : Nat) (aF : Nat) (aX : Nat) (th : Int) (sg : Int) (sv : Nat) (ln : Nat) (ta : Nat) (f1 : Nat) (l1 : Nat) (f2 : Nat) (l2 : Nat) (g : Nat → Int) (fz : Nat → Int) (tx : Nat → Nat) (ht : ∀ j, j < 80 → tx j < 128) (hln : ln ≤ 80) (hval : ¬ ((acF tx ln (ln + 1) (0, sg, f1, l1, f2, l2)).1 = true)) : zMet l yX7_runText wsX7_runText ({ frames := 4, cells := 0, slots := 0, locals := 84 } : Room) D ct [.ref h0] [zO h0 6 [zi th, .ref aS, zi ((sv : Nat) : Int), .ref aF, .ref aX, zi ((ln : Nat) : Int), zi ((ta : Nat) : Int), zi sg, zi ((f1 : Nat) : Int), zi ((l1 : Nat) : Int), zi ((f2 : Nat) : Int), zi ((l2 : Nat) : Int)], zAI ct aS 3888 g, zAZ ct aF 2 fz, zAI ct aX 80 (zN tx)] (fun _ : Unit => True) (fun _ => some (zi (0))) (fun _ => [zO h0 6 [zi 1, .ref aS, zi ((sv : Nat) : Int), .ref aF, .ref aX, zi ((ln : Nat) : Int), zi (((acF tx ln (ln + 1) (0, sg, f1, l1, f2, l2)).2.1 : Nat) : Int), zi ((acF tx ln (ln + 1) (0, sg, f1, l1, f2, l2)).2.2.1), zi (((acF tx ln (ln + 1) (0, sg, f1, l1, f2, l2)).2.2.2.1 : Nat) : Int), zi (((acF tx ln (ln + 1) (0, sg, f1, l1, f2, l2)).2.2.2.2.1 : Nat) : Int), zi (((acF tx ln (ln + 1) (0, sg, f1, l1, f2, l2)).2.2.2.2.2.1 : Nat) : Int), zi (((acF tx ln (ln + 1) (0, sg, f1, l1, f2, l2)).2.2.2.2.2.2 : Nat) : Int)], zAI ct aS 3888 g, zAZ ct aF 2 fz, zAI ct aX 80 (zN tx)]) 0 0 := by
  refine zMet_i (cc := cX7_runText) (maxL := 2) (r := fun _ => 0) (by decide) rfl (Nat.le_of_ble_eq_true rfl) ?_
  intro p e s m below meth c A Q Z hnm hR
  refine z_eqs _ [(0, .ref h0)] _ rfl rfl rfl ?_
  refine z_aload_n Z dX7_runText_0 0 rfl ?_
  refine z_aload_n Z dX7_runText_1 0 rfl ?_
  refine z_callVu (rest := [.ref h0]) Z dX7_runText_2 6 0 _ _ rfl rfl rfl (zc_X7_areCommands l D ct (h0) (aS) (aF) (aX) (th) (sg) (sv) (ln) (ta) (f1) (l1) (f2) (l2) (tx) (by first | assumption | omega) (by first | assumption | omega)) (cwV 0 Z.1.2.2.2.2 gX7_runText_X7_areCommands rfl rfl rfl (by decide +kernel) ⟨Nat.le_of_ble_eq_true rfl, Nat.le_of_ble_eq_true rfl⟩) rfl (Nat.le_of_ble_eq_true rfl) ⟨Nat.le_of_ble_eq_true rfl, Nat.le_of_ble_eq_true rfl⟩ [true, false, false, true] [zO h0 6 [zi th, .ref aS, zi ((sv : Nat) : Int), .ref aF, .ref aX, zi ((ln : Nat) : Int), zi (((acF tx ln (ln + 1) (0, sg, f1, l1, f2, l2)).2.1 : Nat) : Int), zi ((acF tx ln (ln + 1) (0, sg, f1, l1, f2, l2)).2.2.1), zi (((acF tx ln (ln + 1) (0, sg, f1, l1, f2, l2)).2.2.2.1 : Nat) : Int), zi (((acF tx ln (ln + 1) (0, sg, f1, l1, f2, l2)).2.2.2.2.1 : Nat) : Int), zi (((acF tx ln (ln + 1) (0, sg, f1, l1, f2, l2)).2.2.2.2.2.1 : Nat) : Int), zi (((acF tx ln (ln + 1) (0, sg, f1, l1, f2, l2)).2.2.2.2.2.2 : Nat) : Int)], zAI ct aS 3888 g, zAZ ct aF 2 fz, zAI ct aX 80 (zN tx)] [zi (zb (decide ((acF tx ln (ln + 1) (0, sg, f1, l1, f2, l2)).1 = true))), .ref h0] rfl rfl rfl rfl ?_
  refine z_ifb_eq Z 12 dX7_runText_5 (by decide) (fun h5 => ?_) (fun h5 => ?_)
  · have h5 := of_decide_eq_false h5
    refine z_iconst (v := 1) Z dX7_runText_12 rfl ?_
    refine z_callVu (rest := []) Z dX7_runText_13 6 0 _ _ rfl rfl rfl (zc_X7_holds l D ct (h0) (aS) (aF) (aX) (th) (((acF tx ln (ln + 1) (0, sg, f1, l1, f2, l2)).2.2.1)) (sv) (ln) ((acF tx ln (ln + 1) (0, sg, f1, l1, f2, l2)).2.1) ((acF tx ln (ln + 1) (0, sg, f1, l1, f2, l2)).2.2.2.1) ((acF tx ln (ln + 1) (0, sg, f1, l1, f2, l2)).2.2.2.2.1) ((acF tx ln (ln + 1) (0, sg, f1, l1, f2, l2)).2.2.2.2.2.1) ((acF tx ln (ln + 1) (0, sg, f1, l1, f2, l2)).2.2.2.2.2.2) (1) (by first | assumption | omega)) (cwV 1 Z.1.2.2.2.2 gX7_runText_X7_holds rfl rfl rfl (by decide +kernel) ⟨Nat.le_of_ble_eq_true rfl, Nat.le_of_ble_eq_true rfl⟩) rfl (Nat.le_of_ble_eq_true rfl) ⟨Nat.le_of_ble_eq_true rfl, Nat.le_of_ble_eq_true rfl⟩ [true, false, false, false] [zO h0 6 [zi 1, .ref aS, zi ((sv : Nat) : Int), .ref aF, .ref aX, zi ((ln : Nat) : Int), zi ((((acF tx ln (ln + 1) (0, sg, f1, l1, f2, l2)).2.1) : Nat) : Int), zi ((acF tx ln (ln + 1) (0, sg, f1, l1, f2, l2)).2.2.1), zi ((((acF tx ln (ln + 1) (0, sg, f1, l1, f2, l2)).2.2.2.1) : Nat) : Int), zi ((((acF tx ln (ln + 1) (0, sg, f1, l1, f2, l2)).2.2.2.2.1) : Nat) : Int), zi ((((acF tx ln (ln + 1) (0, sg, f1, l1, f2, l2)).2.2.2.2.2.1) : Nat) : Int), zi ((((acF tx ln (ln + 1) (0, sg, f1, l1, f2, l2)).2.2.2.2.2.2) : Nat) : Int)], zAI ct aS 3888 g, zAZ ct aF 2 fz, zAI ct aX 80 (zN tx)] [zi (zb (decide (1 = 0)))] rfl rfl rfl rfl ?_
    refine z_ifb_ne Z 21 dX7_runText_16 (by decide) (fun h16 => ?_) (fun h16 => ?_)
    · have h16 := of_decide_eq_true h16
      exfalso; first | contradiction | omega
    · have h16 := of_decide_eq_false h16
      refine z_iconst (v := 0) Z dX7_runText_19 rfl ?_
      refine z_eqs [zO h0 6 [zi 1, .ref aS, zi ((sv : Nat) : Int), .ref aF, .ref aX, zi ((ln : Nat) : Int), zi (((acF tx ln (ln + 1) (0, sg, f1, l1, f2, l2)).2.1 : Nat) : Int), zi ((acF tx ln (ln + 1) (0, sg, f1, l1, f2, l2)).2.2.1), zi (((acF tx ln (ln + 1) (0, sg, f1, l1, f2, l2)).2.2.2.1 : Nat) : Int), zi (((acF tx ln (ln + 1) (0, sg, f1, l1, f2, l2)).2.2.2.2.1 : Nat) : Int), zi (((acF tx ln (ln + 1) (0, sg, f1, l1, f2, l2)).2.2.2.2.2.1 : Nat) : Int), zi (((acF tx ln (ln + 1) (0, sg, f1, l1, f2, l2)).2.2.2.2.2.2 : Nat) : Int)], zAI ct aS 3888 g, zAZ ct aF 2 fz, zAI ct aX 80 (zN tx)] _ [zi 0] (rfl) rfl (rfl) ?_
      exact hR _ _ () trivial dX7_runText_20
  · have h5 := of_decide_eq_true h5
    exfalso; first | contradiction | omega
theorem zin_X7_runText_X7 : ∀ w ∈ wsX70, w ∈ wsX7_runText := by decide +kernel
theorem zlk_X7_runText_108 : Cond.fieldLink RX7 108 "HashedDirectoryModel" "at" "I" ∈ wsX7_runText := by decide +kernel
set_option maxHeartbeats 4000000 in
set_option maxRecDepth 100000 in
theorem zc_X7_runText_0 (l : Launch) (D : va_G) (ct : zCT) (h0 : Nat) (aS : Nat) (aF : Nat) (aX : Nat) (th : Int) (sg : Int) (sv : Nat) (ln : Nat) (ta : Nat) (f1 : Nat) (l1 : Nat) (f2 : Nat) (l2 : Nat) (g : Nat → Int) (fz : Nat → Int) (tx : Nat → Nat) (cnt : Nat) (hcn : g 0 = ((cnt : Nat) : Int)) (hc : cnt ≤ 40) (hg : ∀ k, k < 432 → -2 ≤ g k ∧ g k < 70000) (hhs : ∀ k, k < 40 → 0 ≤ mI g k 1 ∧ mI g k 1 < 64) (ht : ∀ j, j < 80 → tx j < 128) (hln : ln ≤ 80) (hsv : sv ≤ 6) (h2 : 0 ≤ g 2 ∧ g 2 < 49000) (h3 : 0 ≤ g 3 ∧ g 3 < 49000) (h1 : 0 ≤ g 1 ∧ g 1 < 2000) (hval : (acF tx ln (ln + 1) (0, sg, f1, l1, f2, l2)).1 = true) : zMet l yX7_runText wsX7_runText ({ frames := 5, cells := 0, slots := 0, locals := 117 } : Room) D ct [.ref h0] [zO h0 6 [zi th, .ref aS, zi ((sv : Nat) : Int), .ref aF, .ref aX, zi ((ln : Nat) : Int), zi ((ta : Nat) : Int), zi sg, zi ((f1 : Nat) : Int), zi ((l1 : Nat) : Int), zi ((f2 : Nat) : Int), zi ((l2 : Nat) : Int)], zAI ct aS 3888 g, zAZ ct aF 2 fz, zAI ct aX 80 (zN tx)] (fun _ : Unit => True) (fun _ => some (zi ((((mxF tx ln (ln + 1) 0 (kpG g sv) (0, (acF tx ln (ln + 1) (0, sg, f1, l1, f2, l2)).2.2)).1 : Nat) : Int)))) (fun _ => [zO h0 6 [zi 0, .ref aS, zi ((kpS sv : Nat) : Int), .ref aF, .ref aX, zi ((ln : Nat) : Int), zi (((mxF tx ln (ln + 1) 0 (kpG g sv) (0, (acF tx ln (ln + 1) (0, sg, f1, l1, f2, l2)).2.2)).2.2.1 : Nat) : Int), zi ((mxF tx ln (ln + 1) 0 (kpG g sv) (0, (acF tx ln (ln + 1) (0, sg, f1, l1, f2, l2)).2.2)).2.2.2.1), zi (((mxF tx ln (ln + 1) 0 (kpG g sv) (0, (acF tx ln (ln + 1) (0, sg, f1, l1, f2, l2)).2.2)).2.2.2.2.1 : Nat) : Int), zi (((mxF tx ln (ln + 1) 0 (kpG g sv) (0, (acF tx ln (ln + 1) (0, sg, f1, l1, f2, l2)).2.2)).2.2.2.2.2.1 : Nat) : Int), zi (((mxF tx ln (ln + 1) 0 (kpG g sv) (0, (acF tx ln (ln + 1) (0, sg, f1, l1, f2, l2)).2.2)).2.2.2.2.2.2.1 : Nat) : Int), zi (((mxF tx ln (ln + 1) 0 (kpG g sv) (0, (acF tx ln (ln + 1) (0, sg, f1, l1, f2, l2)).2.2)).2.2.2.2.2.2.2 : Nat) : Int)], zAI ct aS 3888 ((mxF tx ln (ln + 1) 0 (kpG g sv) (0, (acF tx ln (ln + 1) (0, sg, f1, l1, f2, l2)).2.2)).2.1), zAZ ct aF 2 fz, zAI ct aX 80 (zN tx)]) 0 0 := by
  refine zMet_i (cc := cX7_runText) (maxL := 2) (r := fun _ => (((mxF tx ln (ln + 1) 0 (kpG g sv) (0, (acF tx ln (ln + 1) (0, sg, f1, l1, f2, l2)).2.2)).1 : Nat) : Int)) (by decide) rfl (Nat.le_of_ble_eq_true rfl) ?_
  intro p e s m below meth c A Q Z hnm hR
  refine z_eqs _ [(0, .ref h0)] _ rfl rfl rfl ?_
  refine z_aload_n Z dX7_runText_0 0 rfl ?_
  refine z_aload_n Z dX7_runText_1 0 rfl ?_
  refine z_callVu (rest := [.ref h0]) Z dX7_runText_2 6 0 _ _ rfl rfl rfl (zc_X7_areCommands l D ct (h0) (aS) (aF) (aX) (th) (sg) (sv) (ln) (ta) (f1) (l1) (f2) (l2) (tx) (by first | assumption | omega) (by first | assumption | omega)) (cwV 0 Z.1.2.2.2.2 gX7_runText_X7_areCommands rfl rfl rfl (by decide +kernel) ⟨Nat.le_of_ble_eq_true rfl, Nat.le_of_ble_eq_true rfl⟩) rfl (Nat.le_of_ble_eq_true rfl) ⟨Nat.le_of_ble_eq_true rfl, Nat.le_of_ble_eq_true rfl⟩ [true, false, false, true] [zO h0 6 [zi th, .ref aS, zi ((sv : Nat) : Int), .ref aF, .ref aX, zi ((ln : Nat) : Int), zi (((acF tx ln (ln + 1) (0, sg, f1, l1, f2, l2)).2.1 : Nat) : Int), zi ((acF tx ln (ln + 1) (0, sg, f1, l1, f2, l2)).2.2.1), zi (((acF tx ln (ln + 1) (0, sg, f1, l1, f2, l2)).2.2.2.1 : Nat) : Int), zi (((acF tx ln (ln + 1) (0, sg, f1, l1, f2, l2)).2.2.2.2.1 : Nat) : Int), zi (((acF tx ln (ln + 1) (0, sg, f1, l1, f2, l2)).2.2.2.2.2.1 : Nat) : Int), zi (((acF tx ln (ln + 1) (0, sg, f1, l1, f2, l2)).2.2.2.2.2.2 : Nat) : Int)], zAI ct aS 3888 g, zAZ ct aF 2 fz, zAI ct aX 80 (zN tx)] [zi (zb (decide ((acF tx ln (ln + 1) (0, sg, f1, l1, f2, l2)).1 = true))), .ref h0] rfl rfl rfl rfl ?_
  refine z_ifb_eq Z 12 dX7_runText_5 (by decide) (fun h5 => ?_) (fun h5 => ?_)
  · have h5 := of_decide_eq_false h5
    exfalso; first | contradiction | omega
  · have h5 := of_decide_eq_true h5
    refine z_iconst (v := 0) Z dX7_runText_8 rfl ?_
    refine z_goto Z 13 dX7_runText_9 (by decide) ?_
    refine z_callVu (rest := []) Z dX7_runText_13 6 0 _ _ rfl rfl rfl (zc_X7_holds l D ct (h0) (aS) (aF) (aX) (th) (((acF tx ln (ln + 1) (0, sg, f1, l1, f2, l2)).2.2.1)) (sv) (ln) ((acF tx ln (ln + 1) (0, sg, f1, l1, f2, l2)).2.1) ((acF tx ln (ln + 1) (0, sg, f1, l1, f2, l2)).2.2.2.1) ((acF tx ln (ln + 1) (0, sg, f1, l1, f2, l2)).2.2.2.2.1) ((acF tx ln (ln + 1) (0, sg, f1, l1, f2, l2)).2.2.2.2.2.1) ((acF tx ln (ln + 1) (0, sg, f1, l1, f2, l2)).2.2.2.2.2.2) (0) (by first | assumption | omega)) (cwV 1 Z.1.2.2.2.2 gX7_runText_X7_holds rfl rfl rfl (by decide +kernel) ⟨Nat.le_of_ble_eq_true rfl, Nat.le_of_ble_eq_true rfl⟩) rfl (Nat.le_of_ble_eq_true rfl) ⟨Nat.le_of_ble_eq_true rfl, Nat.le_of_ble_eq_true rfl⟩ [true, false, false, false] [zO h0 6 [zi 0, .ref aS, zi ((sv : Nat) : Int), .ref aF, .ref aX, zi ((ln : Nat) : Int), zi ((((acF tx ln (ln + 1) (0, sg, f1, l1, f2, l2)).2.1) : Nat) : Int), zi ((acF tx ln (ln + 1) (0, sg, f1, l1, f2, l2)).2.2.1), zi ((((acF tx ln (ln + 1) (0, sg, f1, l1, f2, l2)).2.2.2.1) : Nat) : Int), zi ((((acF tx ln (ln + 1) (0, sg, f1, l1, f2, l2)).2.2.2.2.1) : Nat) : Int), zi ((((acF tx ln (ln + 1) (0, sg, f1, l1, f2, l2)).2.2.2.2.2.1) : Nat) : Int), zi ((((acF tx ln (ln + 1) (0, sg, f1, l1, f2, l2)).2.2.2.2.2.2) : Nat) : Int)], zAI ct aS 3888 g, zAZ ct aF 2 fz, zAI ct aX 80 (zN tx)] [zi (zb (decide (0 = 0)))] rfl rfl rfl rfl ?_
    refine z_ifb_ne Z 21 dX7_runText_16 (by decide) (fun h16 => ?_) (fun h16 => ?_)
    · have h16 := of_decide_eq_true h16
      refine z_aload_n Z dX7_runText_21 0 rfl ?_
      refine z_eqs [zO h0 6 [zi 0, .ref aS, zi ((sv : Nat) : Int), .ref aF, .ref aX, zi ((ln : Nat) : Int), zi (((acF tx ln (ln + 1) (0, sg, f1, l1, f2, l2)).2.1 : Nat) : Int), zi ((acF tx ln (ln + 1) (0, sg, f1, l1, f2, l2)).2.2.1), zi (((acF tx ln (ln + 1) (0, sg, f1, l1, f2, l2)).2.2.2.1 : Nat) : Int), zi (((acF tx ln (ln + 1) (0, sg, f1, l1, f2, l2)).2.2.2.2.1 : Nat) : Int), zi (((acF tx ln (ln + 1) (0, sg, f1, l1, f2, l2)).2.2.2.2.2.1 : Nat) : Int), zi (((acF tx ln (ln + 1) (0, sg, f1, l1, f2, l2)).2.2.2.2.2.2 : Nat) : Int)], zAI ct aS 3888 g, zAZ ct aF 2 fz, zAI ct aX 80 (zN tx)] _ [.ref h0] (by rw [show ((((acF tx ln (ln + 1) (0, sg, f1, l1, f2, l2)).2.1) : Nat) : Int) = (((acF tx ln (ln + 1) (0, sg, f1, l1, f2, l2)).2.1 : Nat) : Int) from by omega, show ((((acF tx ln (ln + 1) (0, sg, f1, l1, f2, l2)).2.2.2.1) : Nat) : Int) = (((acF tx ln (ln + 1) (0, sg, f1, l1, f2, l2)).2.2.2.1 : Nat) : Int) from by omega, show ((((acF tx ln (ln + 1) (0, sg, f1, l1, f2, l2)).2.2.2.2.1) : Nat) : Int) = (((acF tx ln (ln + 1) (0, sg, f1, l1, f2, l2)).2.2.2.2.1 : Nat) : Int) from by omega, show ((((acF tx ln (ln + 1) (0, sg, f1, l1, f2, l2)).2.2.2.2.2.1) : Nat) : Int) = (((acF tx ln (ln + 1) (0, sg, f1, l1, f2, l2)).2.2.2.2.2.1 : Nat) : Int) from by omega, show ((((acF tx ln (ln + 1) (0, sg, f1, l1, f2, l2)).2.2.2.2.2.2) : Nat) : Int) = (((acF tx ln (ln + 1) (0, sg, f1, l1, f2, l2)).2.2.2.2.2.2 : Nat) : Int) from by omega]) rfl (rfl) ?_
      refine z_callVu (rest := []) Z dX7_runText_22 6 0 _ _ rfl rfl rfl (zc_X7_keeps l D ct (h0) (aS) (aF) (aX) (0) (((acF tx ln (ln + 1) (0, sg, f1, l1, f2, l2)).2.2.1)) (sv) (ln) ((acF tx ln (ln + 1) (0, sg, f1, l1, f2, l2)).2.1) ((acF tx ln (ln + 1) (0, sg, f1, l1, f2, l2)).2.2.2.1) ((acF tx ln (ln + 1) (0, sg, f1, l1, f2, l2)).2.2.2.2.1) ((acF tx ln (ln + 1) (0, sg, f1, l1, f2, l2)).2.2.2.2.2.1) ((acF tx ln (ln + 1) (0, sg, f1, l1, f2, l2)).2.2.2.2.2.2) (g) (by first | assumption | omega)) (cwV 0 Z.1.2.2.2.2 gX7_runText_X7_keeps rfl rfl rfl (by decide +kernel) ⟨Nat.le_of_ble_eq_true rfl, Nat.le_of_ble_eq_true rfl⟩) rfl (Nat.le_of_ble_eq_true rfl) ⟨Nat.le_of_ble_eq_true rfl, Nat.le_of_ble_eq_true rfl⟩ [true, true, false, false] [zO h0 6 [zi 0, .ref aS, zi ((kpS sv : Nat) : Int), .ref aF, .ref aX, zi ((ln : Nat) : Int), zi ((((acF tx ln (ln + 1) (0, sg, f1, l1, f2, l2)).2.1) : Nat) : Int), zi ((acF tx ln (ln + 1) (0, sg, f1, l1, f2, l2)).2.2.1), zi ((((acF tx ln (ln + 1) (0, sg, f1, l1, f2, l2)).2.2.2.1) : Nat) : Int), zi ((((acF tx ln (ln + 1) (0, sg, f1, l1, f2, l2)).2.2.2.2.1) : Nat) : Int), zi ((((acF tx ln (ln + 1) (0, sg, f1, l1, f2, l2)).2.2.2.2.2.1) : Nat) : Int), zi ((((acF tx ln (ln + 1) (0, sg, f1, l1, f2, l2)).2.2.2.2.2.2) : Nat) : Int)], zAI ct aS 3888 (kpG g sv), zAZ ct aF 2 fz, zAI ct aX 80 (zN tx)] [] rfl rfl rfl rfl ?_
      refine z_aload_n Z dX7_runText_25 0 rfl ?_
      refine z_iconst (v := 0) Z dX7_runText_26 rfl ?_
      refine z_put (ty := .int) Z dX7_runText_27 zin_X7_runText_X7 tyX7 tyX7_ok nmX7 0 6 [zO h0 6 [zi 0, .ref aS, zi ((kpS sv : Nat) : Int), .ref aF, .ref aX, zi ((ln : Nat) : Int), zi 0, zi ((acF tx ln (ln + 1) (0, sg, f1, l1, f2, l2)).2.2.1), zi ((((acF tx ln (ln + 1) (0, sg, f1, l1, f2, l2)).2.2.2.1) : Nat) : Int), zi ((((acF tx ln (ln + 1) (0, sg, f1, l1, f2, l2)).2.2.2.2.1) : Nat) : Int), zi ((((acF tx ln (ln + 1) (0, sg, f1, l1, f2, l2)).2.2.2.2.2.1) : Nat) : Int), zi ((((acF tx ln (ln + 1) (0, sg, f1, l1, f2, l2)).2.2.2.2.2.2) : Nat) : Int)], zAI ct aS 3888 (kpG g sv), zAZ ct aF 2 fz, zAI ct aX 80 (zN tx)] rfl rfl (by decide) zlk_X7_runText_108 rfl (by decide +kernel) rfl rfl (Nat.le_of_ble_eq_true rfl) rfl ?_
      refine z_iconst (v := 0) Z dX7_runText_30 rfl ?_
      refine z_istore_n Z dX7_runText_31 [(1, zi 0), (0, .ref h0)] (by decide) rfl ?_
      refine z_lsub [1, 0] [(0, .ref h0), (1, zi 0)] rfl ?_
      have LOOP32 : ∀ (N0 : Nat) (p9 : PsV) (n9 ex : Nat) (gg : Nat → Int) (x1 : Int) (y0_6 : Int) (y0_7 : Int) (y0_8 : Int) (y0_9 : Int) (y0_10 : Int) (y0_11 : Int), n9 < N0 → x1 = ((ex : Nat) : Int) → y0_6 = ((p9.1 : Nat) : Int) → y0_7 = (p9.2.1) → y0_8 = ((p9.2.2.1 : Nat) : Int) → y0_9 = ((p9.2.2.2.1 : Nat) : Int) → y0_10 = ((p9.2.2.2.2.1 : Nat) : Int) → y0_11 = ((p9.2.2.2.2.2 : Nat) : Int) → (p9.1 ≤ ln) → (ln + 1 ≤ n9 + p9.1) → (ex ≤ p9.1) → (okM (g 2 + 6 * ((ex : Nat) : Int)) (g 3 + 6 * ((ex : Nat) : Int)) gg) → (mxF tx ln n9 ex gg p9 = (mxF tx ln (ln + 1) 0 (kpG g sv) (0, (acF tx ln (ln + 1) (0, sg, f1, l1, f2, l2)).2.2))) → zW p l e ({ frames := 5, cells := 0, slots := 0, locals := 117 } : Room) s m ([.ref h0] : List Value).toArray below meth c D A 2 Q 0 0 [zO h0 6 [zi 0, .ref aS, zi ((kpS sv : Nat) : Int), .ref aF, .ref aX, zi ((ln : Nat) : Int), zi y0_6, zi y0_7, zi y0_8, zi y0_9, zi y0_10, zi y0_11], zAI ct aS 3888 gg, zAZ ct aF 2 fz, zAI ct aX 80 (zN tx)] [(0, .ref h0), (1, zi x1)] 32 [] := by
        intro N0
        induction N0 with
        | zero => intro p9 n9 ex gg x1 y0_6 y0_7 y0_8 y0_9 y0_10 y0_11 hm0; exact absurd hm0 (Nat.not_lt_zero _)
        | succ N0 ih0 =>
          intro p9 n9 ex gg x1 y0_6 y0_7 y0_8 y0_9 y0_10 y0_11 hm0 ex1 ey0_6 ey0_7 ey0_8 ey0_9 ey0_10 ey0_11 hp9 hn9 hex hM he
          subst ex1
          subst ey0_6
          subst ey0_7
          subst ey0_8
          subst ey0_9
          subst ey0_10
          subst ey0_11
          refine z_aload_n Z dX7_runText_32 0 rfl ?_
          refine z_callVu (rest := []) Z dX7_runText_33 6 0 _ _ rfl rfl rfl (zc_X7_readsCommand l D ct (h0) (aS) (aF) (aX) (0) ((p9.2.1)) (kpS sv) (ln) (p9.1) (p9.2.2.1) (p9.2.2.2.1) (p9.2.2.2.2.1) (p9.2.2.2.2.2) (tx) (by first | assumption | omega) (by first | assumption | omega) (hp9)) (cwV 0 Z.1.2.2.2.2 gX7_runText_X7_readsCommand rfl rfl rfl (by decide +kernel) ⟨Nat.le_of_ble_eq_true rfl, Nat.le_of_ble_eq_true rfl⟩) rfl (Nat.le_of_ble_eq_true rfl) ⟨Nat.le_of_ble_eq_true rfl, Nat.le_of_ble_eq_true rfl⟩ [true, false, false, true] [zO h0 6 [zi 0, .ref aS, zi (((kpS sv) : Nat) : Int), .ref aF, .ref aX, zi ((ln : Nat) : Int), zi (((rcP tx ln (p9.1) (p9.2.2.2.2.1) (p9.2.2.2.2.2)).1 : Nat) : Int), zi ((rcP tx ln (p9.1) (p9.2.2.2.2.1) (p9.2.2.2.2.2)).2.1), zi (((rcP tx ln (p9.1) (p9.2.2.2.2.1) (p9.2.2.2.2.2)).2.2.1 : Nat) : Int), zi (((rcP tx ln (p9.1) (p9.2.2.2.2.1) (p9.2.2.2.2.2)).2.2.2.1 : Nat) : Int), zi (((rcP tx ln (p9.1) (p9.2.2.2.2.1) (p9.2.2.2.2.2)).2.2.2.2.1 : Nat) : Int), zi (((rcP tx ln (p9.1) (p9.2.2.2.2.1) (p9.2.2.2.2.2)).2.2.2.2.2 : Nat) : Int)], zAI ct aS 3888 gg, zAZ ct aF 2 fz, zAI ct aX 80 (zN tx)] [zi (zb (decide (rcB tx ln (p9.1))))] rfl rfl rfl rfl ?_
          have hq9 := rcP_le tx p9.2.2.2.2.1 p9.2.2.2.2.2 hp9
          refine z_ifb_eq Z 59 dX7_runText_36 (by decide) (fun h36 => ?_) (fun h36 => ?_)
          · have h36 := of_decide_eq_false h36
            refine z_iload_n Z dX7_runText_59 1 rfl ?_
            refine z_eqs [zO h0 6 [zi 0, .ref aS, zi ((kpS sv : Nat) : Int), .ref aF, .ref aX, zi ((ln : Nat) : Int), zi (((mxF tx ln (ln + 1) 0 (kpG g sv) (0, (acF tx ln (ln + 1) (0, sg, f1, l1, f2, l2)).2.2)).2.2.1 : Nat) : Int), zi ((mxF tx ln (ln + 1) 0 (kpG g sv) (0, (acF tx ln (ln + 1) (0, sg, f1, l1, f2, l2)).2.2)).2.2.2.1), zi (((mxF tx ln (ln + 1) 0 (kpG g sv) (0, (acF tx ln (ln + 1) (0, sg, f1, l1, f2, l2)).2.2)).2.2.2.2.1 : Nat) : Int), zi (((mxF tx ln (ln + 1) 0 (kpG g sv) (0, (acF tx ln (ln + 1) (0, sg, f1, l1, f2, l2)).2.2)).2.2.2.2.2.1 : Nat) : Int), zi (((mxF tx ln (ln + 1) 0 (kpG g sv) (0, (acF tx ln (ln + 1) (0, sg, f1, l1, f2, l2)).2.2)).2.2.2.2.2.2.1 : Nat) : Int), zi (((mxF tx ln (ln + 1) 0 (kpG g sv) (0, (acF tx ln (ln + 1) (0, sg, f1, l1, f2, l2)).2.2)).2.2.2.2.2.2.2 : Nat) : Int)], zAI ct aS 3888 ((mxF tx ln (ln + 1) 0 (kpG g sv) (0, (acF tx ln (ln + 1) (0, sg, f1, l1, f2, l2)).2.2)).2.1), zAZ ct aF 2 fz, zAI ct aX 80 (zN tx)] _ [zi (((mxF tx ln (ln + 1) 0 (kpG g sv) (0, (acF tx ln (ln + 1) (0, sg, f1, l1, f2, l2)).2.2)).1 : Nat) : Int)] (by rw [← he, mxF_e1 (by omega) h36]) rfl (congrArg (fun z => [zi z]) (by rw [← he, mxF_e1 (by omega) h36])) ?_
            exact hR _ _ () trivial dX7_runText_60
          · have h36 := of_decide_eq_true h36
            have hq8 := rcP_lt p9.2.2.2.2.1 p9.2.2.2.2.2 h36
            have hj9 := rcP_ok p9.2.2.2.2.1 p9.2.2.2.2.2 hp9 hln h36
            refine z_aload_n Z dX7_runText_39 0 rfl ?_
            rcases zopt (isD tx (rcP tx ln (p9.1) (p9.2.2.2.2.1) (p9.2.2.2.2.2)).2.1 (rcP tx ln (p9.1) (p9.2.2.2.2.1) (p9.2.2.2.2.2)).2.2.1 (rcP tx ln (p9.1) (p9.2.2.2.2.1) (p9.2.2.2.2.2)).2.2.2.1 (rcP tx ln (p9.1) (p9.2.2.2.2.1) (p9.2.2.2.2.2)).2.2.2.2.1 (rcP tx ln (p9.1) (p9.2.2.2.2.1) (p9.2.2.2.2.2)).2.2.2.2.2 (gg 0).toNat gg) with hk2 | ⟨g9, hk2⟩
            · refine z_eqs [zO h0 6 [zi 0, .ref aS, zi ((kpS sv : Nat) : Int), .ref aF, .ref aX, zi ((ln : Nat) : Int), zi (((rcP tx ln (p9.1) (p9.2.2.2.2.1) (p9.2.2.2.2.2)).1 : Nat) : Int), zi ((rcP tx ln (p9.1) (p9.2.2.2.2.1) (p9.2.2.2.2.2)).2.1), zi (((rcP tx ln (p9.1) (p9.2.2.2.2.1) (p9.2.2.2.2.2)).2.2.1 : Nat) : Int), zi (((rcP tx ln (p9.1) (p9.2.2.2.2.1) (p9.2.2.2.2.2)).2.2.2.1 : Nat) : Int), zi (((rcP tx ln (p9.1) (p9.2.2.2.2.1) (p9.2.2.2.2.2)).2.2.2.2.1 : Nat) : Int), zi (((rcP tx ln (p9.1) (p9.2.2.2.2.1) (p9.2.2.2.2.2)).2.2.2.2.2 : Nat) : Int)], zAI ct aS 3888 gg, zAZ ct aF 2 fz, zAI ct aX 80 (zN tx)] _ [.ref h0] (by rw [show (((kpS sv) : Nat) : Int) = ((kpS sv : Nat) : Int) from by omega]) rfl (rfl) ?_
              refine z_callVu (rest := []) Z dX7_runText_40 6 0 _ _ rfl rfl rfl (zc_X7_isDone_f l D ct (h0) (aS) (aF) (aX) (0) (((rcP tx ln (p9.1) (p9.2.2.2.2.1) (p9.2.2.2.2.2)).2.1)) (kpS sv) (ln) ((rcP tx ln (p9.1) (p9.2.2.2.2.1) (p9.2.2.2.2.2)).1) ((rcP tx ln (p9.1) (p9.2.2.2.2.1) (p9.2.2.2.2.2)).2.2.1) ((rcP tx ln (p9.1) (p9.2.2.2.2.1) (p9.2.2.2.2.2)).2.2.2.1) ((rcP tx ln (p9.1) (p9.2.2.2.2.1) (p9.2.2.2.2.2)).2.2.2.2.1) ((rcP tx ln (p9.1) (p9.2.2.2.2.1) (p9.2.2.2.2.2)).2.2.2.2.2) (gg) (tx) ((gg 0).toNat) (hM.1) (hM.2.1) (hM.2.2.1) (hM.2.2.2.1) (by first | assumption | omega) (by have := hM.2.2.2.2.2.1; omega) (by have := hM.2.2.2.2.2.2; omega) (hM.2.2.2.2.1) (hj9.1) (hj9.2.1) (hj9.2.2.1) (hj9.2.2.2.1) (hj9.2.2.2.2) (hk2)) (cwV 0 Z.1.2.2.2.2 gX7_runText_X7_isDone rfl rfl rfl (by decide +kernel) ⟨Nat.le_of_ble_eq_true rfl, Nat.le_of_ble_eq_true rfl⟩) rfl (Nat.le_of_ble_eq_true rfl) ⟨Nat.le_of_ble_eq_true rfl, Nat.le_of_ble_eq_true rfl⟩ [true, true, false, true] [zO h0 6 [zi 0, .ref aS, zi (((kpS sv) : Nat) : Int), .ref aF, .ref aX, zi ((ln : Nat) : Int), zi ((((rcP tx ln (p9.1) (p9.2.2.2.2.1) (p9.2.2.2.2.2)).1) : Nat) : Int), zi ((rcP tx ln (p9.1) (p9.2.2.2.2.1) (p9.2.2.2.2.2)).2.1), zi ((((rcP tx ln (p9.1) (p9.2.2.2.2.1) (p9.2.2.2.2.2)).2.2.1) : Nat) : Int), zi ((((rcP tx ln (p9.1) (p9.2.2.2.2.1) (p9.2.2.2.2.2)).2.2.2.1) : Nat) : Int), zi ((((rcP tx ln (p9.1) (p9.2.2.2.2.1) (p9.2.2.2.2.2)).2.2.2.2.1) : Nat) : Int), zi ((((rcP tx ln (p9.1) (p9.2.2.2.2.1) (p9.2.2.2.2.2)).2.2.2.2.2) : Nat) : Int)], zAI ct aS 3888 gg, zAZ ct aF 2 fz, zAI ct aX 80 (zN tx)] [zi (zb (decide (1 = 0)))] rfl rfl rfl rfl ?_
              refine z_ifb_eq Z 59 dX7_runText_43 (by decide) (fun h43 => ?_) (fun h43 => ?_)
              · have h43 := of_decide_eq_false h43
                refine z_iload_n Z dX7_runText_59 1 rfl ?_
                refine z_eqs [zO h0 6 [zi 0, .ref aS, zi ((kpS sv : Nat) : Int), .ref aF, .ref aX, zi ((ln : Nat) : Int), zi (((mxF tx ln (ln + 1) 0 (kpG g sv) (0, (acF tx ln (ln + 1) (0, sg, f1, l1, f2, l2)).2.2)).2.2.1 : Nat) : Int), zi ((mxF tx ln (ln + 1) 0 (kpG g sv) (0, (acF tx ln (ln + 1) (0, sg, f1, l1, f2, l2)).2.2)).2.2.2.1), zi (((mxF tx ln (ln + 1) 0 (kpG g sv) (0, (acF tx ln (ln + 1) (0, sg, f1, l1, f2, l2)).2.2)).2.2.2.2.1 : Nat) : Int), zi (((mxF tx ln (ln + 1) 0 (kpG g sv) (0, (acF tx ln (ln + 1) (0, sg, f1, l1, f2, l2)).2.2)).2.2.2.2.2.1 : Nat) : Int), zi (((mxF tx ln (ln + 1) 0 (kpG g sv) (0, (acF tx ln (ln + 1) (0, sg, f1, l1, f2, l2)).2.2)).2.2.2.2.2.2.1 : Nat) : Int), zi (((mxF tx ln (ln + 1) 0 (kpG g sv) (0, (acF tx ln (ln + 1) (0, sg, f1, l1, f2, l2)).2.2)).2.2.2.2.2.2.2 : Nat) : Int)], zAI ct aS 3888 ((mxF tx ln (ln + 1) 0 (kpG g sv) (0, (acF tx ln (ln + 1) (0, sg, f1, l1, f2, l2)).2.2)).2.1), zAZ ct aF 2 fz, zAI ct aX 80 (zN tx)] _ [zi (((mxF tx ln (ln + 1) 0 (kpG g sv) (0, (acF tx ln (ln + 1) (0, sg, f1, l1, f2, l2)).2.2)).1 : Nat) : Int)] (by rw [← he, mxF_e2 (by omega) h36 hk2]) rfl (congrArg (fun z => [zi z]) (by rw [← he, mxF_e2 (by omega) h36 hk2])) ?_
                exact hR _ _ () trivial dX7_runText_60
              · have h43 := of_decide_eq_true h43
                exfalso; first | contradiction | omega
            · refine z_eqs [zO h0 6 [zi 0, .ref aS, zi ((kpS sv : Nat) : Int), .ref aF, .ref aX, zi ((ln : Nat) : Int), zi (((rcP tx ln (p9.1) (p9.2.2.2.2.1) (p9.2.2.2.2.2)).1 : Nat) : Int), zi ((rcP tx ln (p9.1) (p9.2.2.2.2.1) (p9.2.2.2.2.2)).2.1), zi (((rcP tx ln (p9.1) (p9.2.2.2.2.1) (p9.2.2.2.2.2)).2.2.1 : Nat) : Int), zi (((rcP tx ln (p9.1) (p9.2.2.2.2.1) (p9.2.2.2.2.2)).2.2.2.1 : Nat) : Int), zi (((rcP tx ln (p9.1) (p9.2.2.2.2.1) (p9.2.2.2.2.2)).2.2.2.2.1 : Nat) : Int), zi (((rcP tx ln (p9.1) (p9.2.2.2.2.1) (p9.2.2.2.2.2)).2.2.2.2.2 : Nat) : Int)], zAI ct aS 3888 gg, zAZ ct aF 2 fz, zAI ct aX 80 (zN tx)] _ [.ref h0] (by rw [show (((kpS sv) : Nat) : Int) = ((kpS sv : Nat) : Int) from by omega]) rfl (rfl) ?_
              refine z_callVu (rest := []) Z dX7_runText_40 6 0 _ _ rfl rfl rfl (zc_X7_isDone_t l D ct (h0) (aS) (aF) (aX) (0) (((rcP tx ln (p9.1) (p9.2.2.2.2.1) (p9.2.2.2.2.2)).2.1)) (kpS sv) (ln) ((rcP tx ln (p9.1) (p9.2.2.2.2.1) (p9.2.2.2.2.2)).1) ((rcP tx ln (p9.1) (p9.2.2.2.2.1) (p9.2.2.2.2.2)).2.2.1) ((rcP tx ln (p9.1) (p9.2.2.2.2.1) (p9.2.2.2.2.2)).2.2.2.1) ((rcP tx ln (p9.1) (p9.2.2.2.2.1) (p9.2.2.2.2.2)).2.2.2.2.1) ((rcP tx ln (p9.1) (p9.2.2.2.2.1) (p9.2.2.2.2.2)).2.2.2.2.2) (gg) (tx) ((gg 0).toNat) (g9) (hM.1) (hM.2.1) (hM.2.2.1) (hM.2.2.2.1) (by first | assumption | omega) (by have := hM.2.2.2.2.2.1; omega) (by have := hM.2.2.2.2.2.2; omega) (hM.2.2.2.2.1) (hj9.1) (hj9.2.1) (hj9.2.2.1) (hj9.2.2.2.1) (hj9.2.2.2.2) (hk2)) (cwV 0 Z.1.2.2.2.2 gX7_runText_X7_isDone rfl rfl rfl (by decide +kernel) ⟨Nat.le_of_ble_eq_true rfl, Nat.le_of_ble_eq_true rfl⟩) rfl (Nat.le_of_ble_eq_true rfl) ⟨Nat.le_of_ble_eq_true rfl, Nat.le_of_ble_eq_true rfl⟩ [true, true, false, true] [zO h0 6 [zi 0, .ref aS, zi (((kpS sv) : Nat) : Int), .ref aF, .ref aX, zi ((ln : Nat) : Int), zi ((((rcP tx ln (p9.1) (p9.2.2.2.2.1) (p9.2.2.2.2.2)).1) : Nat) : Int), zi ((rcP tx ln (p9.1) (p9.2.2.2.2.1) (p9.2.2.2.2.2)).2.1), zi ((((rcP tx ln (p9.1) (p9.2.2.2.2.1) (p9.2.2.2.2.2)).2.2.1) : Nat) : Int), zi ((((rcP tx ln (p9.1) (p9.2.2.2.2.1) (p9.2.2.2.2.2)).2.2.2.1) : Nat) : Int), zi ((((rcP tx ln (p9.1) (p9.2.2.2.2.1) (p9.2.2.2.2.2)).2.2.2.2.1) : Nat) : Int), zi ((((rcP tx ln (p9.1) (p9.2.2.2.2.1) (p9.2.2.2.2.2)).2.2.2.2.2) : Nat) : Int)], zAI ct aS 3888 g9, zAZ ct aF 2 fz, zAI ct aX 80 (zN tx)] [zi (zb (decide (0 = 0)))] rfl rfl rfl rfl ?_
              refine z_ifb_eq Z 59 dX7_runText_43 (by decide) (fun h43 => ?_) (fun h43 => ?_)
              · have h43 := of_decide_eq_false h43
                exfalso; first | contradiction | omega
              · have h43 := of_decide_eq_true h43
                have hM9 := okM_s hM hj9 ht (by omega) (by omega) hk2
                refine z_iinc (v := ((ex + 1 : Nat) : Int)) Z dX7_runText_46 1 [(1, zi ((ex + 1 : Nat) : Int)), (0, .ref h0)] rfl (by omega) (by decide) rfl ?_
                refine z_aload_n Z dX7_runText_49 1 rfl ?_
                refine z_bipush (v := 59) Z dX7_runText_50 (by decide +kernel) ?_
                rcases Classical.em ((rcP tx ln (p9.1) (p9.2.2.2.2.1) (p9.2.2.2.2.2)).1 < ln ∧ tx (rcP tx ln (p9.1) (p9.2.2.2.2.1) (p9.2.2.2.2.2)).1 = 59) with hk1 | hk1
                · refine z_eqs [zO h0 6 [zi 0, .ref aS, zi ((kpS sv : Nat) : Int), .ref aF, .ref aX, zi ((ln : Nat) : Int), zi (((rcP tx ln (p9.1) (p9.2.2.2.2.1) (p9.2.2.2.2.2)).1 : Nat) : Int), zi ((rcP tx ln (p9.1) (p9.2.2.2.2.1) (p9.2.2.2.2.2)).2.1), zi (((rcP tx ln (p9.1) (p9.2.2.2.2.1) (p9.2.2.2.2.2)).2.2.1 : Nat) : Int), zi (((rcP tx ln (p9.1) (p9.2.2.2.2.1) (p9.2.2.2.2.2)).2.2.2.1 : Nat) : Int), zi (((rcP tx ln (p9.1) (p9.2.2.2.2.1) (p9.2.2.2.2.2)).2.2.2.2.1 : Nat) : Int), zi (((rcP tx ln (p9.1) (p9.2.2.2.2.1) (p9.2.2.2.2.2)).2.2.2.2.2 : Nat) : Int)], zAI ct aS 3888 g9, zAZ ct aF 2 fz, zAI ct aX 80 (zN tx)] _ [zi 59, .ref h0] (by rw [show (((kpS sv) : Nat) : Int) = ((kpS sv : Nat) : Int) from by omega, show ((((rcP tx ln (p9.1) (p9.2.2.2.2.1) (p9.2.2.2.2.2)).1) : Nat) : Int) = (((rcP tx ln (p9.1) (p9.2.2.2.2.1) (p9.2.2.2.2.2)).1 : Nat) : Int) from by omega, show ((((rcP tx ln (p9.1) (p9.2.2.2.2.1) (p9.2.2.2.2.2)).2.2.1) : Nat) : Int) = (((rcP tx ln (p9.1) (p9.2.2.2.2.1) (p9.2.2.2.2.2)).2.2.1 : Nat) : Int) from by omega, show ((((rcP tx ln (p9.1) (p9.2.2.2.2.1) (p9.2.2.2.2.2)).2.2.2.1) : Nat) : Int) = (((rcP tx ln (p9.1) (p9.2.2.2.2.1) (p9.2.2.2.2.2)).2.2.2.1 : Nat) : Int) from by omega, show ((((rcP tx ln (p9.1) (p9.2.2.2.2.1) (p9.2.2.2.2.2)).2.2.2.2.1) : Nat) : Int) = (((rcP tx ln (p9.1) (p9.2.2.2.2.1) (p9.2.2.2.2.2)).2.2.2.2.1 : Nat) : Int) from by omega, show ((((rcP tx ln (p9.1) (p9.2.2.2.2.1) (p9.2.2.2.2.2)).2.2.2.2.2) : Nat) : Int) = (((rcP tx ln (p9.1) (p9.2.2.2.2.1) (p9.2.2.2.2.2)).2.2.2.2.2 : Nat) : Int) from by omega]) rfl (rfl) ?_
                  refine z_callVu (rest := []) Z dX7_runText_52 6 0 _ _ rfl rfl rfl (zc_X7_takes_t l D ct (h0) (aS) (aF) (aX) (0) (((rcP tx ln (p9.1) (p9.2.2.2.2.1) (p9.2.2.2.2.2)).2.1)) (kpS sv) (ln) ((rcP tx ln (p9.1) (p9.2.2.2.2.1) (p9.2.2.2.2.2)).1) ((rcP tx ln (p9.1) (p9.2.2.2.2.1) (p9.2.2.2.2.2)).2.2.1) ((rcP tx ln (p9.1) (p9.2.2.2.2.1) (p9.2.2.2.2.2)).2.2.2.1) ((rcP tx ln (p9.1) (p9.2.2.2.2.1) (p9.2.2.2.2.2)).2.2.2.2.1) ((rcP tx ln (p9.1) (p9.2.2.2.2.1) (p9.2.2.2.2.2)).2.2.2.2.2) (tx) (59) (by first | assumption | omega) (by first | assumption | omega) (by first | assumption | omega) (by decide) (hk1)) (cwV 1 Z.1.2.2.2.2 gX7_runText_X7_takes rfl rfl rfl (by decide +kernel) ⟨Nat.le_of_ble_eq_true rfl, Nat.le_of_ble_eq_true rfl⟩) rfl (Nat.le_of_ble_eq_true rfl) ⟨Nat.le_of_ble_eq_true rfl, Nat.le_of_ble_eq_true rfl⟩ [true, false, false, true] [zO h0 6 [zi 0, .ref aS, zi (((kpS sv) : Nat) : Int), .ref aF, .ref aX, zi ((ln : Nat) : Int), zi ((((rcP tx ln (p9.1) (p9.2.2.2.2.1) (p9.2.2.2.2.2)).1) + 1 : Nat) : Int), zi ((rcP tx ln (p9.1) (p9.2.2.2.2.1) (p9.2.2.2.2.2)).2.1), zi ((((rcP tx ln (p9.1) (p9.2.2.2.2.1) (p9.2.2.2.2.2)).2.2.1) : Nat) : Int), zi ((((rcP tx ln (p9.1) (p9.2.2.2.2.1) (p9.2.2.2.2.2)).2.2.2.1) : Nat) : Int), zi ((((rcP tx ln (p9.1) (p9.2.2.2.2.1) (p9.2.2.2.2.2)).2.2.2.2.1) : Nat) : Int), zi ((((rcP tx ln (p9.1) (p9.2.2.2.2.1) (p9.2.2.2.2.2)).2.2.2.2.2) : Nat) : Int)], zAI ct aS 3888 g9, zAZ ct aF 2 fz, zAI ct aX 80 (zN tx)] [zi (zb (decide (0 = 0)))] rfl rfl rfl rfl ?_
                  refine z_pop Z dX7_runText_55 rfl ?_
                  refine z_goto Z 32 dX7_runText_56 (by decide) ?_
                  refine z_lsub [1, 0] [(0, .ref h0), (1, zi ((ex + 1 : Nat) : Int))] rfl ?_
                  exact ih0 ((rcP tx ln (p9.1) (p9.2.2.2.2.1) (p9.2.2.2.2.2)).1 + 1, (rcP tx ln (p9.1) (p9.2.2.2.2.1) (p9.2.2.2.2.2)).2) (n9 - 1) (ex + 1) g9 _ _ _ _ _ _ _ (by omega) (by first | rfl | omega) (by first | rfl | omega) (by first | rfl | omega) (by first | rfl | omega) (by first | rfl | omega) (by first | rfl | omega) (by first | rfl | omega) (by show (rcP tx ln (p9.1) (p9.2.2.2.2.1) (p9.2.2.2.2.2)).1 + 1 ≤ ln; omega) (by show ln + 1 ≤ n9 - 1 + ((rcP tx ln (p9.1) (p9.2.2.2.2.1) (p9.2.2.2.2.2)).1 + 1); omega) (by show ex + 1 ≤ (rcP tx ln (p9.1) (p9.2.2.2.2.1) (p9.2.2.2.2.2)).1 + 1; omega) (hM9) ((mxF_next (by omega) h36 hk2 (if_pos hk1)).symm.trans he)
                · refine z_eqs [zO h0 6 [zi 0, .ref aS, zi ((kpS sv : Nat) : Int), .ref aF, .ref aX, zi ((ln : Nat) : Int), zi (((rcP tx ln (p9.1) (p9.2.2.2.2.1) (p9.2.2.2.2.2)).1 : Nat) : Int), zi ((rcP tx ln (p9.1) (p9.2.2.2.2.1) (p9.2.2.2.2.2)).2.1), zi (((rcP tx ln (p9.1) (p9.2.2.2.2.1) (p9.2.2.2.2.2)).2.2.1 : Nat) : Int), zi (((rcP tx ln (p9.1) (p9.2.2.2.2.1) (p9.2.2.2.2.2)).2.2.2.1 : Nat) : Int), zi (((rcP tx ln (p9.1) (p9.2.2.2.2.1) (p9.2.2.2.2.2)).2.2.2.2.1 : Nat) : Int), zi (((rcP tx ln (p9.1) (p9.2.2.2.2.1) (p9.2.2.2.2.2)).2.2.2.2.2 : Nat) : Int)], zAI ct aS 3888 g9, zAZ ct aF 2 fz, zAI ct aX 80 (zN tx)] _ [zi 59, .ref h0] (by rw [show (((kpS sv) : Nat) : Int) = ((kpS sv : Nat) : Int) from by omega, show ((((rcP tx ln (p9.1) (p9.2.2.2.2.1) (p9.2.2.2.2.2)).1) : Nat) : Int) = (((rcP tx ln (p9.1) (p9.2.2.2.2.1) (p9.2.2.2.2.2)).1 : Nat) : Int) from by omega, show ((((rcP tx ln (p9.1) (p9.2.2.2.2.1) (p9.2.2.2.2.2)).2.2.1) : Nat) : Int) = (((rcP tx ln (p9.1) (p9.2.2.2.2.1) (p9.2.2.2.2.2)).2.2.1 : Nat) : Int) from by omega, show ((((rcP tx ln (p9.1) (p9.2.2.2.2.1) (p9.2.2.2.2.2)).2.2.2.1) : Nat) : Int) = (((rcP tx ln (p9.1) (p9.2.2.2.2.1) (p9.2.2.2.2.2)).2.2.2.1 : Nat) : Int) from by omega, show ((((rcP tx ln (p9.1) (p9.2.2.2.2.1) (p9.2.2.2.2.2)).2.2.2.2.1) : Nat) : Int) = (((rcP tx ln (p9.1) (p9.2.2.2.2.1) (p9.2.2.2.2.2)).2.2.2.2.1 : Nat) : Int) from by omega, show ((((rcP tx ln (p9.1) (p9.2.2.2.2.1) (p9.2.2.2.2.2)).2.2.2.2.2) : Nat) : Int) = (((rcP tx ln (p9.1) (p9.2.2.2.2.1) (p9.2.2.2.2.2)).2.2.2.2.2 : Nat) : Int) from by omega]) rfl (rfl) ?_
                  refine z_callVu (rest := []) Z dX7_runText_52 6 0 _ _ rfl rfl rfl (zc_X7_takes_f l D ct (h0) (aS) (aF) (aX) (0) (((rcP tx ln (p9.1) (p9.2.2.2.2.1) (p9.2.2.2.2.2)).2.1)) (kpS sv) (ln) ((rcP tx ln (p9.1) (p9.2.2.2.2.1) (p9.2.2.2.2.2)).1) ((rcP tx ln (p9.1) (p9.2.2.2.2.1) (p9.2.2.2.2.2)).2.2.1) ((rcP tx ln (p9.1) (p9.2.2.2.2.1) (p9.2.2.2.2.2)).2.2.2.1) ((rcP tx ln (p9.1) (p9.2.2.2.2.1) (p9.2.2.2.2.2)).2.2.2.2.1) ((rcP tx ln (p9.1) (p9.2.2.2.2.1) (p9.2.2.2.2.2)).2.2.2.2.2) (tx) (59) (by first | assumption | omega) (by first | assumption | omega) (by first | assumption | omega) (by decide) (hk1)) (cwV 1 Z.1.2.2.2.2 gX7_runText_X7_takes rfl rfl rfl (by decide +kernel) ⟨Nat.le_of_ble_eq_true rfl, Nat.le_of_ble_eq_true rfl⟩) rfl (Nat.le_of_ble_eq_true rfl) ⟨Nat.le_of_ble_eq_true rfl, Nat.le_of_ble_eq_true rfl⟩ [true, false, false, true] [zO h0 6 [zi 0, .ref aS, zi (((kpS sv) : Nat) : Int), .ref aF, .ref aX, zi ((ln : Nat) : Int), zi ((((rcP tx ln (p9.1) (p9.2.2.2.2.1) (p9.2.2.2.2.2)).1) : Nat) : Int), zi ((rcP tx ln (p9.1) (p9.2.2.2.2.1) (p9.2.2.2.2.2)).2.1), zi ((((rcP tx ln (p9.1) (p9.2.2.2.2.1) (p9.2.2.2.2.2)).2.2.1) : Nat) : Int), zi ((((rcP tx ln (p9.1) (p9.2.2.2.2.1) (p9.2.2.2.2.2)).2.2.2.1) : Nat) : Int), zi ((((rcP tx ln (p9.1) (p9.2.2.2.2.1) (p9.2.2.2.2.2)).2.2.2.2.1) : Nat) : Int), zi ((((rcP tx ln (p9.1) (p9.2.2.2.2.1) (p9.2.2.2.2.2)).2.2.2.2.2) : Nat) : Int)], zAI ct aS 3888 g9, zAZ ct aF 2 fz, zAI ct aX 80 (zN tx)] [zi (zb (decide (1 = 0)))] rfl rfl rfl rfl ?_
                  refine z_pop Z dX7_runText_55 rfl ?_
                  refine z_goto Z 32 dX7_runText_56 (by decide) ?_
                  refine z_lsub [1, 0] [(0, .ref h0), (1, zi ((ex + 1 : Nat) : Int))] rfl ?_
                  exact ih0 ((rcP tx ln (p9.1) (p9.2.2.2.2.1) (p9.2.2.2.2.2)).1, (rcP tx ln (p9.1) (p9.2.2.2.2.1) (p9.2.2.2.2.2)).2) (n9 - 1) (ex + 1) g9 _ _ _ _ _ _ _ (by omega) (by first | rfl | omega) (by first | rfl | omega) (by first | rfl | omega) (by first | rfl | omega) (by first | rfl | omega) (by first | rfl | omega) (by first | rfl | omega) (by show (rcP tx ln (p9.1) (p9.2.2.2.2.1) (p9.2.2.2.2.2)).1 ≤ ln; omega) (by show ln + 1 ≤ n9 - 1 + ((rcP tx ln (p9.1) (p9.2.2.2.2.1) (p9.2.2.2.2.2)).1); omega) (by show ex + 1 ≤ (rcP tx ln (p9.1) (p9.2.2.2.2.1) (p9.2.2.2.2.2)).1; omega) (hM9) ((mxF_next (by omega) h36 hk2 (if_neg hk1)).symm.trans he)
      exact LOOP32 ((ln + 1) + 1) (0, (acF tx ln (ln + 1) (0, sg, f1, l1, f2, l2)).2.2) (ln + 1) 0 (kpG g sv) _ _ _ _ _ _ _ (Nat.lt_succ_self _) (by first | rfl | omega) (by first | rfl | omega) (by first | rfl | omega) (by first | rfl | omega) (by first | rfl | omega) (by first | rfl | omega) (by first | rfl | omega) (Nat.zero_le _) (Nat.le_refl _) (Nat.zero_le _) (okM_0 hcn hc hg hhs h1 h2 h3 hsv) (rfl)
    · have h16 := of_decide_eq_false h16
      exfalso; first | contradiction | omega
theorem zin_X7_meanLeafSize_X7 : ∀ w ∈ wsX70, w ∈ wsX7_meanLeafSize := by decide +kernel
theorem zlk_X7_meanLeafSize_20 : Cond.fieldLink RX7 20 "HashedDirectoryModel" "thrown" "I" ∈ wsX7_meanLeafSize := by decide +kernel
theorem zlk_X7_meanLeafSize_7 : Cond.fieldLink RX7 7 "HashedDirectoryModel" "s" "[I" ∈ wsX7_meanLeafSize := by decide +kernel
set_option maxHeartbeats 4000000 in
set_option maxRecDepth 100000 in
theorem zc_X7_meanLeafSize_0 (l : Launch) (D : va_G) (ct : zCT) (h0 : Nat) (aS : Nat) (aF : Nat) (aX : Nat) (th : Int) (sg : Int) (sv : Nat) (ln : Nat) (ta : Nat) (f1 : Nat) (l1 : Nat) (f2 : Nat) (l2 : Nat) (g : Nat → Int) (fz : Nat → Int) (tx : Nat → Nat) (cnt : Nat) (hcn : g 0 = ((cnt : Nat) : Int)) (hc : cnt ≤ 40) (hg : ∀ k, k < 432 → -2 ≤ g k ∧ g k < 70000) (hl9 : 0 < 1 + g 2 - g 3 ∧ 1 + g 2 - g 3 ≤ 64) : zMet l yX7_meanLeafSize wsX7_meanLeafSize ({ frames := 1, cells := 0, slots := 0, locals := 20 } : Room) D ct [.ref h0] [zO h0 6 [zi th, .ref aS, zi ((sv : Nat) : Int), .ref aF, .ref aX, zi ((ln : Nat) : Int), zi ((ta : Nat) : Int), zi sg, zi ((f1 : Nat) : Int), zi ((l1 : Nat) : Int), zi ((f2 : Nat) : Int), zi ((l2 : Nat) : Int)], zAI ct aS 3888 g, zAZ ct aF 2 fz, zAI ct aX 80 (zN tx)] (fun _ : Unit => True) (fun _ => some (.float (FP.fdiv (FP.i2f (zI (g 0))) (FP.i2f (zI (1 + g 2 - g 3)))))) (fun _ => [zO h0 6 [zi 0, .ref aS, zi ((sv : Nat) : Int), .ref aF, .ref aX, zi ((ln : Nat) : Int), zi ((ta : Nat) : Int), zi sg, zi ((f1 : Nat) : Int), zi ((l1 : Nat) : Int), zi ((f2 : Nat) : Int), zi ((l2 : Nat) : Int)], zAI ct aS 3888 g, zAZ ct aF 2 fz, zAI ct aX 80 (zN tx)]) 0 0 := by
  refine zMet_f (cc := cX7_meanLeafSize) (maxL := 1) (r := fun _ => FP.fdiv (FP.i2f (zI (g 0))) (FP.i2f (zI (1 + g 2 - g 3)))) (by decide) rfl (Nat.le_of_ble_eq_true rfl) ?_
  intro p e s m below meth c A Q Z hnm hR
  refine z_eqs _ [(0, .ref h0)] _ rfl rfl rfl ?_
  refine z_aload_n Z dX7_meanLeafSize_0 0 rfl ?_
  refine z_iconst (v := 0) Z dX7_meanLeafSize_1 rfl ?_
  refine z_put (ty := .int) Z dX7_meanLeafSize_2 zin_X7_meanLeafSize_X7 tyX7 tyX7_ok nmX7 0 0 [zO h0 6 [zi 0, .ref aS, zi ((sv : Nat) : Int), .ref aF, .ref aX, zi ((ln : Nat) : Int), zi ((ta : Nat) : Int), zi sg, zi ((f1 : Nat) : Int), zi ((l1 : Nat) : Int), zi ((f2 : Nat) : Int), zi ((l2 : Nat) : Int)], zAI ct aS 3888 g, zAZ ct aF 2 fz, zAI ct aX 80 (zN tx)] rfl rfl (by decide) zlk_X7_meanLeafSize_20 rfl (by decide +kernel) rfl rfl (Nat.le_of_ble_eq_true rfl) rfl ?_
  refine z_aload_n Z dX7_meanLeafSize_5 0 rfl ?_
  refine z_get Z dX7_meanLeafSize_6 zin_X7_meanLeafSize_X7 0 1 rfl rfl (by decide) zlk_X7_meanLeafSize_7 rfl ?_
  refine z_iconst (v := 0) Z dX7_meanLeafSize_9 rfl ?_
  refine z_iald Z dX7_meanLeafSize_10 1 (0) rfl (by omega) ⟨by omega, by omega⟩ ?_
  have he1 := hg (0) (by omega)
  refine z_i2f Z dX7_meanLeafSize_11 ?_
  refine z_aload_n Z dX7_meanLeafSize_12 0 rfl ?_
  refine z_callVu (rest := [.float (FP.i2f (zI (g 0)))]) Z dX7_meanLeafSize_13 6 0 _ _ rfl rfl rfl (zc_X7_leavesNow l D ct (h0) (aS) (aF) (aX) (0) (sg) (sv) (ln) (ta) (f1) (l1) (f2) (l2) (g)) (cwV 0 Z.1.2.2.2.2 gX7_meanLeafSize_X7_leavesNow rfl rfl rfl (by decide +kernel) ⟨Nat.le_of_ble_eq_true rfl, Nat.le_of_ble_eq_true rfl⟩) rfl (Nat.le_of_ble_eq_true rfl) ⟨Nat.le_of_ble_eq_true rfl, Nat.le_of_ble_eq_true rfl⟩ [true, true, false, false] [zO h0 6 [zi 0, .ref aS, zi ((sv : Nat) : Int), .ref aF, .ref aX, zi ((ln : Nat) : Int), zi ((ta : Nat) : Int), zi sg, zi ((f1 : Nat) : Int), zi ((l1 : Nat) : Int), zi ((f2 : Nat) : Int), zi ((l2 : Nat) : Int)], zAI ct aS 3888 g, zAZ ct aF 2 fz, zAI ct aX 80 (zN tx)] [zi (1 + g 2 - g 3), .float (FP.i2f (zI (g 0)))] rfl rfl rfl rfl ?_
  refine z_i2f Z dX7_meanLeafSize_16 ?_
  refine z_fdiv Z dX7_meanLeafSize_17 (fdv_ok2 hcn hc hl9) ?_
  refine z_eqs [zO h0 6 [zi 0, .ref aS, zi ((sv : Nat) : Int), .ref aF, .ref aX, zi ((ln : Nat) : Int), zi ((ta : Nat) : Int), zi sg, zi ((f1 : Nat) : Int), zi ((l1 : Nat) : Int), zi ((f2 : Nat) : Int), zi ((l2 : Nat) : Int)], zAI ct aS 3888 g, zAZ ct aF 2 fz, zAI ct aX 80 (zN tx)] _ [.float (FP.fdiv (FP.i2f (zI (g 0))) (FP.i2f (zI (1 + g 2 - g 3))))] (rfl) rfl (rfl) ?_
  exact hR _ _ () trivial dX7_meanLeafSize_18
