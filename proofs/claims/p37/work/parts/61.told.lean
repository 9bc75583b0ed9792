/-! the law's smaller methods -/
theorem zlk_L_up_8 : Cond.constant RL 8 (zI 2147483647) ∈ wsL_up := by decide +kernel
set_option maxHeartbeats 8000000 in
set_option maxRecDepth 100000 in
theorem zc_L_up (l : Launch) (D : va_G) (ct : zCT) (v : Int32) (n : Nat) (hn : 0 < n) (hn2 : n < 2147483648) : zMet l yL_up wsL_up ({ frames := 0, cells := 0, slots := 0, locals := 0 } : Room) D ct [.int v, zi ((n : Nat) : Int)] [] (fun _ : Unit => True) (fun _ => some (zi (((upF v n : Nat) : Int)))) (fun _ => []) 0 0 := by
  refine zMet_i (cc := cL_up) (maxL := 2) (r := fun _ => ((upF v n : Nat) : Int)) (by decide) rfl (Nat.le_of_ble_eq_true rfl) ?_
  intro p e s9 m below meth c A9 Q Z hnm hR
  refine z_eqs _ [(0, .int v), (1, zi ((n : Nat) : Int))] _ rfl rfl rfl ?_
  refine z_iload_n Z dL_up_0 0 rfl ?_
  refine z_ldc (v := 2147483647) Z dL_up_1 zlk_L_up_8 ?_
  refine z_iandX (n := 2147483647) Z dL_up_3 ?_
  have hb3 := anF_le v (n := 2147483647) (by omega)
  refine z_iload_n Z dL_up_4 1 rfl ?_
  refine z_irem Z dL_up_5 (by omega) (by omega) ?_
  refine z_top (y := ((upF v n : Nat) : Int)) (by unfold upF; exact (Int.natCast_emod _ _)) ?_
  refine z_eqs ([]) _ [zi ((upF v n : Nat) : Int)] (rfl) rfl (rfl) ?_
  exact hR _ _ () trivial dL_up_6
set_option maxHeartbeats 8000000 in
set_option maxRecDepth 100000 in
theorem zc_L_types (l : Launch) (D : va_G) (ct : zCT) (A : AdV) (s : StV) (h : HsV) (fl : Nat → Int) (qv : Nat → StV) (tx : Nat → Nat) (len : Nat) (name : Nat) (hA : okA A) (k : okW s h fl qv tx len) (hname : name < 100) : zMet l yL_types wsL_types ({ frames := 2, cells := 0, slots := 0, locals := 42 } : Room) D ct [.ref (A.1 0), zi ((name : Nat) : Int)] (OW ct A s h fl qv tx len) (fun _ : Unit => True) (fun _ => some (zi (3))) (fun _ => (OW ct A s h fl qv (tyT tx name) 2)) 0 0 := by
  refine zMet_i (cc := cL_types) (maxL := 3) (r := fun _ => 3) (by decide) rfl (Nat.le_of_ble_eq_true rfl) ?_
  intro p e s9 m below meth c A9 Q Z hnm hR
  refine z_eqs _ [(0, .ref (A.1 0)), (1, zi ((name : Nat) : Int))] _ rfl rfl rfl ?_
  have hl80 : len ≤ 80 := k.2.2.2.1
  refine z_aload_n Z dL_types_0 0 rfl ?_
  refine z_callVw (rest := []) Z dL_types_1 5 0 _ _ rfl rfl rfl (zc_X6_clearText l D ct (A.1 0) (A.1 1) (A.1 2) (A.1 3) (A.1 4) (A.1 5) (A.1 6) (A.1 7) (A.1 8) (A.1 9) (A.1 10) (A.1 11) (s.1) (s.2.1) (s.2.2.1) (s.2.2.2.1) (s.2.2.2.2.1) (s.2.2.2.2.2.1) (s.2.2.2.2.2.2.1) (s.2.2.2.2.2.2.2) (A.1 12) (A.1 13) (h.1) (h.2.1) (A.2.1) (A.2.2.2.1) (h.2.2) (A.2.2.1) (fl) (A.2.2.2.2) (qv) (tx) (len) (k.1.1.1.1) (k.1.1.1.2.1) (k.1.1.1.2.2.1) (k.1.1.1.2.2.2.1) (k.1.1.2) (k.1.1.1.2.2.2.2) (k.2.1.1) (k.2.1.2) (hA.1) (hA.2) (k.2.2.1) (k.2.2.2.1) (k.2.2.2.2)) rfl (cwV 0 Z.1.2.2.2.2 gL_types_X6_clearText rfl rfl rfl (by decide +kernel) ⟨Nat.le_of_ble_eq_true rfl, Nat.le_of_ble_eq_true rfl⟩) rfl (Nat.le_of_ble_eq_true rfl) ⟨Nat.le_of_ble_eq_true rfl, Nat.le_of_ble_eq_true rfl⟩ (fun _ => OW ct A s h fl qv tx 0) (fun _ => [zi ((len : Nat) : Int)]) (fun _ => rfl) rfl (fun _ => rfl) (fun _ _ => ?_)
  have k1 : okW s h fl qv tx 0 := (k).tx (Nat.zero_le _) (k).2.2.2.2
  refine z_istore_n Z dL_types_4 [(2, zi ((len : Nat) : Int)), (0, .ref (A.1 0)), (1, zi ((name : Nat) : Int))] (by decide) rfl ?_
  refine z_iload_n Z dL_types_5 0 rfl ?_
  refine z_if_ge Z 13 dL_types_6 (by decide) (by omega) (fun h6 => ?_) (fun h6 => ?_)
  · refine z_aload_n Z dL_types_13 1 rfl ?_
    refine z_bipush (v := 97) Z dL_types_14 (by decide +kernel) ?_
    refine z_iload_n Z dL_types_16 2 rfl ?_
    refine z_iconst (v := 5) Z dL_types_17 rfl ?_
    refine z_irem Z dL_types_18 (by omega) (by omega) ?_
    refine z_top (y := ((name % 5 : Nat) : Int)) (by omega) ?_
    refine z_iadd Z dL_types_19 ?_
    refine z_top (y := ((97 + (name % 5) : Nat) : Int)) (by omega) ?_
    refine z_callVw (rest := []) Z dL_types_20 5 0 _ _ rfl rfl rfl (zc_X6_appendText l D ct (A.1 0) (A.1 1) (A.1 2) (A.1 3) (A.1 4) (A.1 5) (A.1 6) (A.1 7) (A.1 8) (A.1 9) (A.1 10) (A.1 11) (s.1) (s.2.1) (s.2.2.1) (s.2.2.2.1) (s.2.2.2.2.1) (s.2.2.2.2.2.1) (s.2.2.2.2.2.2.1) (s.2.2.2.2.2.2.2) (A.1 12) (A.1 13) (h.1) (h.2.1) (A.2.1) (A.2.2.2.1) (h.2.2) (A.2.2.1) (fl) (A.2.2.2.2) (qv) (tx) (0) (97 + (name % 5)) (k1.1.1.1.1) (k1.1.1.1.2.1) (k1.1.1.1.2.2.1) (k1.1.1.1.2.2.2.1) (k1.1.1.2) (k1.1.1.1.2.2.2.2) (k1.2.1.1) (k1.2.1.2) (hA.1) (hA.2) (k1.2.2.1) (k1.2.2.2.1) (k1.2.2.2.2) (by first | assumption | omega) (by first | assumption | omega)) rfl (cwV 1 Z.1.2.2.2.2 gL_types_X6_appendText rfl rfl rfl (by decide +kernel) ⟨Nat.le_of_ble_eq_true rfl, Nat.le_of_ble_eq_true rfl⟩) rfl (Nat.le_of_ble_eq_true rfl) ⟨Nat.le_of_ble_eq_true rfl, Nat.le_of_ble_eq_true rfl⟩ (fun _ => OW ct A s h fl qv (zU tx 0 (97 + (name % 5))) (0 + 1)) (fun _ => [zi ((0 + 1 : Nat) : Int)]) (fun _ => rfl) rfl (fun _ => rfl) (fun _ _ => ?_)
    have k2 : okW s h fl qv (zU tx 0 (97 + (name % 5))) (0 + 1) := (k1).tx (by decide) (zU_tx (k1).2.2.2.2 (by omega))
    refine z_aload_n Z dL_types_23 1 rfl ?_
    refine z_bipush (v := 97) Z dL_types_24 (by decide +kernel) ?_
    refine z_iload_n Z dL_types_26 2 rfl ?_
    refine z_iconst (v := 5) Z dL_types_27 rfl ?_
    refine z_idiv Z dL_types_28 (by omega) (by omega) ?_
    refine z_top (y := ((name / 5 : Nat) : Int)) (by omega) ?_
    refine z_bipush (v := 20) Z dL_types_29 (by decide +kernel) ?_
    refine z_irem Z dL_types_31 (by omega) (by omega) ?_
    refine z_top (y := (((name / 5) % 20 : Nat) : Int)) (by omega) ?_
    refine z_iadd Z dL_types_32 ?_
    refine z_top (y := ((97 + ((name / 5) % 20) : Nat) : Int)) (by omega) ?_
    refine z_callVw (rest := [zi ((0 + 1 : Nat) : Int)]) Z dL_types_33 5 0 _ _ rfl rfl rfl (zc_X6_appendText l D ct (A.1 0) (A.1 1) (A.1 2) (A.1 3) (A.1 4) (A.1 5) (A.1 6) (A.1 7) (A.1 8) (A.1 9) (A.1 10) (A.1 11) (s.1) (s.2.1) (s.2.2.1) (s.2.2.2.1) (s.2.2.2.2.1) (s.2.2.2.2.2.1) (s.2.2.2.2.2.2.1) (s.2.2.2.2.2.2.2) (A.1 12) (A.1 13) (h.1) (h.2.1) (A.2.1) (A.2.2.2.1) (h.2.2) (A.2.2.1) (fl) (A.2.2.2.2) (qv) (zU tx 0 (97 + (name % 5))) (0 + 1) (97 + ((name / 5) % 20)) (k2.1.1.1.1) (k2.1.1.1.2.1) (k2.1.1.1.2.2.1) (k2.1.1.1.2.2.2.1) (k2.1.1.2) (k2.1.1.1.2.2.2.2) (k2.2.1.1) (k2.2.1.2) (hA.1) (hA.2) (k2.2.2.1) (k2.2.2.2.1) (k2.2.2.2.2) (by first | assumption | omega) (by first | assumption | omega)) rfl (cwV 1 Z.1.2.2.2.2 gL_types_X6_appendText rfl rfl rfl (by decide +kernel) ⟨Nat.le_of_ble_eq_true rfl, Nat.le_of_ble_eq_true rfl⟩) rfl (Nat.le_of_ble_eq_true rfl) ⟨Nat.le_of_ble_eq_true rfl, Nat.le_of_ble_eq_true rfl⟩ (fun _ => OW ct A s h fl qv (zU (zU tx 0 (97 + (name % 5))) (0 + 1) (97 + ((name / 5) % 20))) ((0 + 1) + 1)) (fun _ => [zi (((0 + 1) + 1 : Nat) : Int), zi ((0 + 1 : Nat) : Int)]) (fun _ => rfl) rfl (fun _ => rfl) (fun _ _ => ?_)
    have k3 : okW s h fl qv (zU (zU tx 0 (97 + (name % 5))) (0 + 1) (97 + ((name / 5) % 20))) ((0 + 1) + 1) := (k2).tx (by decide) (zU_tx (k2).2.2.2.2 (by omega))
    refine z_iadd Z dL_types_36 ?_
    refine z_top (y := (((0 + 1) + ((0 + 1) + 1) : Nat) : Int)) (by omega) ?_
    refine z_eqs (OW ct A s h fl qv (tyT tx name) 2) _ [zi 3] (rfl) rfl (rfl) ?_
    exact hR _ _ () trivial dL_types_37
  · exfalso; first | contradiction | omega
theorem zlk_L_told_9 : Cond.constantLong RL 9 89 ∈ wsL_told := by decide +kernel
theorem zlk_L_told_27 : Cond.constantLong RL 27 31 ∈ wsL_told := by decide +kernel
theorem zlk_L_told_36 : Cond.constantLong RL 36 7 ∈ wsL_told := by decide +kernel
set_option maxHeartbeats 8000000 in
set_option maxRecDepth 100000 in
theorem zc_L_told (l : Launch) (D : va_G) (ct : zCT) (A : AdV) (s : StV) (h : HsV) (fl : Nat → Int) (qv : Nat → StV) (tx : Nat → Nat) (len : Nat)  (hA : okA A) (k : okW s h fl qv tx len)  : zMet l yL_told wsL_told ({ frames := 4, cells := 0, slots := 0, locals := 89 } : Room) D ct [.ref (A.1 0)] (OW ct A s h fl qv tx len) (fun _ : Unit => True) (fun _ => some (.long (tdF s))) (fun _ => (OW ct A s h fl qv tx len)) 0 0 := by
  refine zMet_l (cc := cL_told) (maxL := 5) (r := fun _ => tdF s) (by decide) rfl (Nat.le_of_ble_eq_true rfl) ?_
  intro p e s9 m below meth c A9 Q Z hnm hR
  refine z_eqs _ [(0, .ref (A.1 0))] _ rfl rfl rfl ?_
  have hc40 : s.2.2.2.2.1 ≤ 40 := k.1.1.1.1
  refine z_ldc2 Z dL_told_0 zlk_L_told_9 ?_
  refine z_aload_n Z dL_told_3 0 rfl ?_
  refine z_callVw (rest := [.long (89 : Int64)]) Z dL_told_4 5 0 _ _ rfl rfl rfl (zc_X6_splits l D ct (A.1 0) (A.1 1) (A.1 2) (A.1 3) (A.1 4) (A.1 5) (A.1 6) (A.1 7) (A.1 8) (A.1 9) (A.1 10) (A.1 11) (s.1) (s.2.1) (s.2.2.1) (s.2.2.2.1) (s.2.2.2.2.1) (s.2.2.2.2.2.1) (s.2.2.2.2.2.2.1) (s.2.2.2.2.2.2.2) (A.1 12) (A.1 13) (h.1) (h.2.1) (A.2.1) (A.2.2.2.1) (h.2.2) (A.2.2.1) (fl) (A.2.2.2.2) (qv) (tx) (len) (k.1.1.1.1) (k.1.1.1.2.1) (k.1.1.1.2.2.1) (k.1.1.1.2.2.2.1) (k.1.1.2) (k.1.1.1.2.2.2.2) (k.2.1.1) (k.2.1.2) (hA.1) (hA.2) (k.2.2.1) (k.2.2.2.1) (k.2.2.2.2)) rfl (cwV 0 Z.1.2.2.2.2 gL_told_X6_splits rfl rfl rfl (by decide +kernel) ⟨Nat.le_of_ble_eq_true rfl, Nat.le_of_ble_eq_true rfl⟩) rfl (Nat.le_of_ble_eq_true rfl) ⟨Nat.le_of_ble_eq_true rfl, Nat.le_of_ble_eq_true rfl⟩ (fun _ => OW ct A s h fl qv tx len) (fun _ => [zi (((s.2.2.2.2.2.1) : Nat) : Int), .long (89 : Int64)]) (fun _ => rfl) rfl (fun _ => rfl) (fun _ _ => ?_)
  refine z_i2l Z dL_told_7 ?_
  refine z_lmul Z dL_told_8 ?_
  refine z_aload_n Z dL_told_9 0 rfl ?_
  refine z_callVw (rest := [.long ((89 : Int64) * ((zI (((s.2.2.2.2.2.1) : Nat) : Int)).toInt64))]) Z dL_told_10 5 0 _ _ rfl rfl rfl (zc_X6_merges l D ct (A.1 0) (A.1 1) (A.1 2) (A.1 3) (A.1 4) (A.1 5) (A.1 6) (A.1 7) (A.1 8) (A.1 9) (A.1 10) (A.1 11) (s.1) (s.2.1) (s.2.2.1) (s.2.2.2.1) (s.2.2.2.2.1) (s.2.2.2.2.2.1) (s.2.2.2.2.2.2.1) (s.2.2.2.2.2.2.2) (A.1 12) (A.1 13) (h.1) (h.2.1) (A.2.1) (A.2.2.2.1) (h.2.2) (A.2.2.1) (fl) (A.2.2.2.2) (qv) (tx) (len) (k.1.1.1.1) (k.1.1.1.2.1) (k.1.1.1.2.2.1) (k.1.1.1.2.2.2.1) (k.1.1.2) (k.1.1.1.2.2.2.2) (k.2.1.1) (k.2.1.2) (hA.1) (hA.2) (k.2.2.1) (k.2.2.2.1) (k.2.2.2.2)) rfl (cwV 0 Z.1.2.2.2.2 gL_told_X6_merges rfl rfl rfl (by decide +kernel) ⟨Nat.le_of_ble_eq_true rfl, Nat.le_of_ble_eq_true rfl⟩) rfl (Nat.le_of_ble_eq_true rfl) ⟨Nat.le_of_ble_eq_true rfl, Nat.le_of_ble_eq_true rfl⟩ (fun _ => OW ct A s h fl qv tx len) (fun _ => [zi (((s.2.2.2.2.2.2.1) : Nat) : Int), .long ((89 : Int64) * ((zI (((s.2.2.2.2.2.1) : Nat) : Int)).toInt64))]) (fun _ => rfl) rfl (fun _ => rfl) (fun _ _ => ?_)
  refine z_i2l Z dL_told_13 ?_
  refine z_ladd Z dL_told_14 ?_
  refine z_lstore_n Z dL_told_15 [(1, .long (((89 : Int64) * ((zI (((s.2.2.2.2.2.1) : Nat) : Int)).toInt64)) + ((zI (((s.2.2.2.2.2.2.1) : Nat) : Int)).toInt64))), (0, .ref (A.1 0))] (by decide) rfl ?_
  refine z_iconst (v := 0) Z dL_told_16 rfl ?_
  refine z_istore_n Z dL_told_17 [(3, zi 0), (1, .long (((89 : Int64) * ((zI (((s.2.2.2.2.2.1) : Nat) : Int)).toInt64)) + ((zI (((s.2.2.2.2.2.2.1) : Nat) : Int)).toInt64))), (0, .ref (A.1 0))] (by decide) rfl ?_
  refine z_lsub [2, 1, 0] [(0, .ref (A.1 0)), (1, .long (((89 : Int64) * ((zI (((s.2.2.2.2.2.1) : Nat) : Int)).toInt64)) + ((zI (((s.2.2.2.2.2.2.1) : Nat) : Int)).toInt64))), (3, zi 0)] rfl ?_
  have LOOP18 : ∀ (N0 : Nat) (i : Nat) (x3 : Int), s.2.2.2.2.1 + 1 - i < N0 → x3 = ((i : Nat) : Int) → (i ≤ s.2.2.2.2.1) → zW p l e ({ frames := 4, cells := 0, slots := 0, locals := 89 } : Room) s9 m ([.ref (A.1 0)] : List Value).toArray below meth c D A9 5 Q 0 0 (OW ct A s h fl qv tx len) [(0, .ref (A.1 0)), (1, .long (tdA s i)), (3, zi x3)] 18 [] := by
    intro N0
    induction N0 with
    | zero => intro i x3 hm0; exact absurd hm0 (Nat.not_lt_zero _)
    | succ N0 ih0 =>
      intro i x3 hm0 ex3 hi
      subst ex3
      refine z_iload_n Z dL_told_18 2 rfl ?_
      refine z_aload_n Z dL_told_19 0 rfl ?_
      refine z_callVw (rest := [zi ((i : Nat) : Int)]) Z dL_told_20 5 0 _ _ rfl rfl rfl (zc_X6_entries l D ct (A.1 0) (A.1 1) (A.1 2) (A.1 3) (A.1 4) (A.1 5) (A.1 6) (A.1 7) (A.1 8) (A.1 9) (A.1 10) (A.1 11) (s.1) (s.2.1) (s.2.2.1) (s.2.2.2.1) (s.2.2.2.2.1) (s.2.2.2.2.2.1) (s.2.2.2.2.2.2.1) (s.2.2.2.2.2.2.2) (A.1 12) (A.1 13) (h.1) (h.2.1) (A.2.1) (A.2.2.2.1) (h.2.2) (A.2.2.1) (fl) (A.2.2.2.2) (qv) (tx) (len) (k.1.1.1.1) (k.1.1.1.2.1) (k.1.1.1.2.2.1) (k.1.1.1.2.2.2.1) (k.1.1.2) (k.1.1.1.2.2.2.2) (k.2.1.1) (k.2.1.2) (hA.1) (hA.2) (k.2.2.1) (k.2.2.2.1) (k.2.2.2.2)) rfl (cwV 0 Z.1.2.2.2.2 gL_told_X6_entries rfl rfl rfl (by decide +kernel) ⟨Nat.le_of_ble_eq_true rfl, Nat.le_of_ble_eq_true rfl⟩) rfl (Nat.le_of_ble_eq_true rfl) ⟨Nat.le_of_ble_eq_true rfl, Nat.le_of_ble_eq_true rfl⟩ (fun _ => OW ct A s h fl qv tx len) (fun _ => [zi (((s.2.2.2.2.1) : Nat) : Int), zi ((i : Nat) : Int)]) (fun _ => rfl) rfl (fun _ => rfl) (fun _ _ => ?_)
      refine z_icmp_ge Z 102 dL_told_23 (by decide) (by omega) (by omega) (fun h23 => ?_) (fun h23 => ?_)
      · have hi9 : i = s.2.2.2.2.1 := by omega

        subst hi9
        refine z_iconst (v := 0) Z dL_told_102 rfl ?_
        refine z_istore_n Z dL_told_103 [(3, zi 0), (0, .ref (A.1 0)), (1, .long (tdA s s.2.2.2.2.1))] (by decide) rfl ?_
        refine z_lsub [1, 2, 0] [(0, .ref (A.1 0)), (1, .long (tdA s s.2.2.2.2.1)), (3, zi 0)] rfl ?_
        have LOOP104 : ∀ (N1 : Nat) (i : Nat) (x3 : Int), 65 - i < N1 → x3 = ((i : Nat) : Int) → (i ≤ 64) → zW p l e ({ frames := 4, cells := 0, slots := 0, locals := 89 } : Room) s9 m ([.ref (A.1 0)] : List Value).toArray below meth c D A9 5 Q 0 0 (OW ct A s h fl qv tx len) [(0, .ref (A.1 0)), (1, .long (tdB s i)), (3, zi x3)] 104 [] := by
          intro N1
          induction N1 with
          | zero => intro i x3 hm1; exact absurd hm1 (Nat.not_lt_zero _)
          | succ N1 ih1 =>
            intro i x3 hm1 ex3 hi
            subst ex3
            refine z_iload_n Z dL_told_104 2 rfl ?_
            refine z_bipush (v := 64) Z dL_told_105 (by decide +kernel) ?_
            refine z_icmp_ge Z 129 dL_told_107 (by decide) (by omega) (by omega) (fun h107 => ?_) (fun h107 => ?_)
            · have hi9 : i = 64 := by omega

              subst hi9
              refine z_iconst (v := 0) Z dL_told_129 rfl ?_
              refine z_istore_n Z dL_told_130 [(3, zi 0), (0, .ref (A.1 0)), (1, .long (tdB s 64))] (by decide) rfl ?_
              refine z_lsub [1, 2, 0] [(0, .ref (A.1 0)), (1, .long (tdB s 64)), (3, zi 0)] rfl ?_
              have LOOP131 : ∀ (N2 : Nat) (i : Nat) (x3 : Int), 5 - i < N2 → x3 = ((i : Nat) : Int) → (i ≤ 4) → zW p l e ({ frames := 4, cells := 0, slots := 0, locals := 89 } : Room) s9 m ([.ref (A.1 0)] : List Value).toArray below meth c D A9 5 Q 0 0 (OW ct A s h fl qv tx len) [(0, .ref (A.1 0)), (1, .long (tdC s i)), (3, zi x3)] 131 [] := by
                intro N2
                induction N2 with
                | zero => intro i x3 hm2; exact absurd hm2 (Nat.not_lt_zero _)
                | succ N2 ih2 =>
                  intro i x3 hm2 ex3 hi
                  subst ex3
                  refine z_iload_n Z dL_told_131 2 rfl ?_
                  refine z_iconst (v := 4) Z dL_told_132 rfl ?_
                  refine z_icmp_ge Z 155 dL_told_133 (by decide) (by omega) (by omega) (fun h133 => ?_) (fun h133 => ?_)
                  · have hi9 : i = 4 := by omega

                    subst hi9
                    refine z_lload_n Z dL_told_155 1 rfl ?_
                    refine z_eqs (OW ct A s h fl qv tx len) _ [.long (tdF s)] (rfl) rfl (rfl) ?_
                    exact hR _ _ () trivial dL_told_156
                  · refine z_ldc2 Z dL_told_136 zlk_L_told_27 ?_
                    refine z_lload_n Z dL_told_139 1 rfl ?_
                    refine z_lmul Z dL_told_140 ?_
                    refine z_aload_n Z dL_told_141 0 rfl ?_
                    refine z_iload_n Z dL_told_142 2 rfl ?_
                    refine z_callVw (rest := [.long ((31 : Int64) * (tdC s i))]) Z dL_told_143 5 0 _ _ rfl rfl rfl (zc_X6_position l D ct (A.1 0) (A.1 1) (A.1 2) (A.1 3) (A.1 4) (A.1 5) (A.1 6) (A.1 7) (A.1 8) (A.1 9) (A.1 10) (A.1 11) (s.1) (s.2.1) (s.2.2.1) (s.2.2.2.1) (s.2.2.2.2.1) (s.2.2.2.2.2.1) (s.2.2.2.2.2.2.1) (s.2.2.2.2.2.2.2) (A.1 12) (A.1 13) (h.1) (h.2.1) (A.2.1) (A.2.2.2.1) (h.2.2) (A.2.2.1) (fl) (A.2.2.2.2) (qv) (tx) (len) (i) (k.1.1.1.1) (k.1.1.1.2.1) (k.1.1.1.2.2.1) (k.1.1.1.2.2.2.1) (k.1.1.2) (k.1.1.1.2.2.2.2) (k.2.1.1) (k.2.1.2) (hA.1) (hA.2) (k.2.2.1) (k.2.2.2.1) (k.2.2.2.2) (by first | assumption | omega)) rfl (cwV 1 Z.1.2.2.2.2 gL_told_X6_position rfl rfl rfl (by decide +kernel) ⟨Nat.le_of_ble_eq_true rfl, Nat.le_of_ble_eq_true rfl⟩) rfl (Nat.le_of_ble_eq_true rfl) ⟨Nat.le_of_ble_eq_true rfl, Nat.le_of_ble_eq_true rfl⟩ (fun _ => OW ct A s h fl qv tx len) (fun _ => [zi ((s.2.2.2.1) i), .long ((31 : Int64) * (tdC s i))]) (fun _ => rfl) rfl (fun _ => rfl) (fun _ _ => ?_)
                    refine z_i2l Z dL_told_146 ?_
                    refine z_ladd Z dL_told_147 ?_
                    refine z_lstore_n Z dL_told_148 [(1, .long (((31 : Int64) * (tdC s i)) + ((zI ((s.2.2.2.1) i)).toInt64))), (0, .ref (A.1 0)), (3, zi ((i : Nat) : Int))] (by decide) rfl ?_
                    refine z_iinc (v := ((i + 1 : Nat) : Int)) Z dL_told_149 2 [(3, zi ((i + 1 : Nat) : Int)), (1, .long (((31 : Int64) * (tdC s i)) + ((zI ((s.2.2.2.1) i)).toInt64))), (0, .ref (A.1 0))] rfl (by omega) (by decide) rfl ?_
                    refine z_goto Z 131 dL_told_152 (by decide) ?_
                    refine z_lsub [2, 1, 0] [(0, .ref (A.1 0)), (1, .long (((31 : Int64) * (tdC s i)) + ((zI ((s.2.2.2.1) i)).toInt64))), (3, zi ((i + 1 : Nat) : Int))] rfl ?_
                    exact ih2 (i + 1) _ (by omega) (by first | rfl | omega)  (by first | assumption | omega)
              exact LOOP131 (5 - 0 + 1) 0 _ (Nat.lt_succ_self _) (by first | rfl | omega)  (by first | assumption | omega)
            · refine z_ldc2 Z dL_told_110 zlk_L_told_36 ?_
              refine z_lload_n Z dL_told_113 1 rfl ?_
              refine z_lmul Z dL_told_114 ?_
              refine z_aload_n Z dL_told_115 0 rfl ?_
              refine z_iload_n Z dL_told_116 2 rfl ?_
              refine z_callVw (rest := [.long ((7 : Int64) * (tdB s i))]) Z dL_told_117 5 0 _ _ rfl rfl rfl (zc_X6_depthOf l D ct (A.1 0) (A.1 1) (A.1 2) (A.1 3) (A.1 4) (A.1 5) (A.1 6) (A.1 7) (A.1 8) (A.1 9) (A.1 10) (A.1 11) (s.1) (s.2.1) (s.2.2.1) (s.2.2.2.1) (s.2.2.2.2.1) (s.2.2.2.2.2.1) (s.2.2.2.2.2.2.1) (s.2.2.2.2.2.2.2) (A.1 12) (A.1 13) (h.1) (h.2.1) (A.2.1) (A.2.2.2.1) (h.2.2) (A.2.2.1) (fl) (A.2.2.2.2) (qv) (tx) (len) (i) (k.1.1.1.1) (k.1.1.1.2.1) (k.1.1.1.2.2.1) (k.1.1.1.2.2.2.1) (k.1.1.2) (k.1.1.1.2.2.2.2) (k.2.1.1) (k.2.1.2) (hA.1) (hA.2) (k.2.2.1) (k.2.2.2.1) (k.2.2.2.2) (by first | assumption | omega)) rfl (cwV 1 Z.1.2.2.2.2 gL_told_X6_depthOf rfl rfl rfl (by decide +kernel) ⟨Nat.le_of_ble_eq_true rfl, Nat.le_of_ble_eq_true rfl⟩) rfl (Nat.le_of_ble_eq_true rfl) ⟨Nat.le_of_ble_eq_true rfl, Nat.le_of_ble_eq_true rfl⟩ (fun _ => OW ct A s h fl qv tx len) (fun _ => [zi (((s.2.2.1) i : Nat) : Int), .long ((7 : Int64) * (tdB s i))]) (fun _ => rfl) rfl (fun _ => rfl) (fun _ _ => ?_)
              refine z_i2l Z dL_told_120 ?_
              refine z_ladd Z dL_told_121 ?_
              refine z_lstore_n Z dL_told_122 [(1, .long (((7 : Int64) * (tdB s i)) + ((zI (((s.2.2.1) i : Nat) : Int)).toInt64))), (0, .ref (A.1 0)), (3, zi ((i : Nat) : Int))] (by decide) rfl ?_
              refine z_iinc (v := ((i + 1 : Nat) : Int)) Z dL_told_123 2 [(3, zi ((i + 1 : Nat) : Int)), (1, .long (((7 : Int64) * (tdB s i)) + ((zI (((s.2.2.1) i : Nat) : Int)).toInt64))), (0, .ref (A.1 0))] rfl (by omega) (by decide) rfl ?_
              refine z_goto Z 104 dL_told_126 (by decide) ?_
              refine z_lsub [2, 1, 0] [(0, .ref (A.1 0)), (1, .long (((7 : Int64) * (tdB s i)) + ((zI (((s.2.2.1) i : Nat) : Int)).toInt64))), (3, zi ((i + 1 : Nat) : Int))] rfl ?_
              exact ih1 (i + 1) _ (by omega) (by first | rfl | omega)  (by first | assumption | omega)
        exact LOOP104 (65 - 0 + 1) 0 _ (Nat.lt_succ_self _) (by first | rfl | omega)  (by first | assumption | omega)
      · refine z_aload_n Z dL_told_26 0 rfl ?_
        refine z_iload_n Z dL_told_27 2 rfl ?_
        refine z_callVw (rest := []) Z dL_told_28 5 0 _ _ rfl rfl rfl (zc_X6_idAt l D ct (A.1 0) (A.1 1) (A.1 2) (A.1 3) (A.1 4) (A.1 5) (A.1 6) (A.1 7) (A.1 8) (A.1 9) (A.1 10) (A.1 11) (s.1) (s.2.1) (s.2.2.1) (s.2.2.2.1) (s.2.2.2.2.1) (s.2.2.2.2.2.1) (s.2.2.2.2.2.2.1) (s.2.2.2.2.2.2.2) (A.1 12) (A.1 13) (h.1) (h.2.1) (A.2.1) (A.2.2.2.1) (h.2.2) (A.2.2.1) (fl) (A.2.2.2.2) (qv) (tx) (len) (i) (k.1.1.1.1) (k.1.1.1.2.1) (k.1.1.1.2.2.1) (k.1.1.1.2.2.2.1) (k.1.1.2) (k.1.1.1.2.2.2.2) (k.2.1.1) (k.2.1.2) (hA.1) (hA.2) (k.2.2.1) (k.2.2.2.1) (k.2.2.2.2) (by first | assumption | omega)) rfl (cwV 1 Z.1.2.2.2.2 gL_told_X6_idAt rfl rfl rfl (by decide +kernel) ⟨Nat.le_of_ble_eq_true rfl, Nat.le_of_ble_eq_true rfl⟩) rfl (Nat.le_of_ble_eq_true rfl) ⟨Nat.le_of_ble_eq_true rfl, Nat.le_of_ble_eq_true rfl⟩ (fun _ => OW ct A s h fl qv tx len) (fun _ => [zi (if i < (s.2.2.2.2.1) then (((s.1) i % 1000 : Nat) : Int) else -2)]) (fun _ => rfl) rfl (fun _ => rfl) (fun _ _ => ?_)
        have hid9 := fo_id k.1 (k := i) (by omega)
        refine z_top (y := ((s.1 i % 1000 : Nat) : Int)) (by rw [if_pos (by omega)]) ?_
        refine z_istore Z dL_told_31 [(4, zi ((s.1 i % 1000 : Nat) : Int)), (0, .ref (A.1 0)), (1, .long (tdA s i)), (3, zi ((i : Nat) : Int))] (by decide) rfl ?_
        refine z_ldc2 Z dL_told_33 zlk_L_told_27 ?_
        refine z_ldc2 Z dL_told_36 zlk_L_told_27 ?_
        refine z_ldc2 Z dL_told_39 zlk_L_told_27 ?_
        refine z_lload_n Z dL_told_42 2 rfl ?_
        refine z_lmul Z dL_told_43 ?_
        refine z_iload Z dL_told_44 0 rfl ?_
        refine z_i2l Z dL_told_46 ?_
        refine z_ladd Z dL_told_47 ?_
        refine z_lmul Z dL_told_48 ?_
        refine z_aload_n Z dL_told_49 1 rfl ?_
        refine z_iload Z dL_told_50 0 rfl ?_
        refine z_callVw (rest := [.long ((31 : Int64) * (((31 : Int64) * (tdA s i)) + ((zI ((s.1 i % 1000 : Nat) : Int)).toInt64))), .long (31 : Int64)]) Z dL_told_52 5 0 _ _ rfl rfl rfl (zc_X6_hashOf l D ct (A.1 0) (A.1 1) (A.1 2) (A.1 3) (A.1 4) (A.1 5) (A.1 6) (A.1 7) (A.1 8) (A.1 9) (A.1 10) (A.1 11) (s.1) (s.2.1) (s.2.2.1) (s.2.2.2.1) (s.2.2.2.2.1) (s.2.2.2.2.2.1) (s.2.2.2.2.2.2.1) (s.2.2.2.2.2.2.2) (A.1 12) (A.1 13) (h.1) (h.2.1) (A.2.1) (A.2.2.2.1) (h.2.2) (A.2.2.1) (fl) (A.2.2.2.2) (qv) (tx) (len) (((s.1 i % 1000 : Nat) : Int)) (k.1.1.1.1) (k.1.1.1.2.1) (k.1.1.1.2.2.1) (k.1.1.1.2.2.2.1) (k.1.1.2) (k.1.1.1.2.2.2.2) (k.2.1.1) (k.2.1.2) (hA.1) (hA.2) (k.2.2.1) (k.2.2.2.1) (k.2.2.2.2) (by first | assumption | omega) (by rw [hid9]; omega)) rfl (cwV 1 Z.1.2.2.2.2 gL_told_X6_hashOf rfl rfl rfl (by decide +kernel) ⟨Nat.le_of_ble_eq_true rfl, Nat.le_of_ble_eq_true rfl⟩) rfl (Nat.le_of_ble_eq_true rfl) ⟨Nat.le_of_ble_eq_true rfl, Nat.le_of_ble_eq_true rfl⟩ (fun _ => OW ct A s h fl qv tx len) (fun _ => [zi (((s.1) (foF (idP (s.1) ((s.1 i % 1000 : Nat) : Int)) (s.2.2.2.2.1)).toNat / 1000 : Nat) : Int), .long ((31 : Int64) * (((31 : Int64) * (tdA s i)) + ((zI ((s.1 i % 1000 : Nat) : Int)).toInt64))), .long (31 : Int64)]) (fun _ => rfl) rfl (fun _ => rfl) (fun _ _ => ?_)
        refine z_top (y := ((s.1 i / 1000 : Nat) : Int)) (by rw [hid9] <;> rfl) ?_
        refine z_i2l Z dL_told_55 ?_
        refine z_ladd Z dL_told_56 ?_
        refine z_lmul Z dL_told_57 ?_
        refine z_aload_n Z dL_told_58 1 rfl ?_
        refine z_iload Z dL_told_59 0 rfl ?_
        refine z_iconst (v := 0) Z dL_told_61 rfl ?_
        refine z_callVw (rest := [.long ((31 : Int64) * (((31 : Int64) * (((31 : Int64) * (tdA s i)) + ((zI ((s.1 i % 1000 : Nat) : Int)).toInt64))) + ((zI ((s.1 i / 1000 : Nat) : Int)).toInt64)))]) Z dL_told_62 5 0 _ _ rfl rfl rfl (zc_X6_letterOf l D ct (A.1 0) (A.1 1) (A.1 2) (A.1 3) (A.1 4) (A.1 5) (A.1 6) (A.1 7) (A.1 8) (A.1 9) (A.1 10) (A.1 11) (s.1) (s.2.1) (s.2.2.1) (s.2.2.2.1) (s.2.2.2.2.1) (s.2.2.2.2.2.1) (s.2.2.2.2.2.2.1) (s.2.2.2.2.2.2.2) (A.1 12) (A.1 13) (h.1) (h.2.1) (A.2.1) (A.2.2.2.1) (h.2.2) (A.2.2.1) (fl) (A.2.2.2.2) (qv) (tx) (len) (((s.1 i % 1000 : Nat) : Int)) (0) (k.1.1.1.1) (k.1.1.1.2.1) (k.1.1.1.2.2.1) (k.1.1.1.2.2.2.1) (k.1.1.2) (k.1.1.1.2.2.2.2) (k.2.1.1) (k.2.1.2) (hA.1) (hA.2) (k.2.2.1) (k.2.2.2.1) (k.2.2.2.2) (by first | assumption | omega) (by first | assumption | omega) (by rw [hid9]; omega)) rfl (cwV 2 Z.1.2.2.2.2 gL_told_X6_letterOf rfl rfl rfl (by decide +kernel) ⟨Nat.le_of_ble_eq_true rfl, Nat.le_of_ble_eq_true rfl⟩) rfl (Nat.le_of_ble_eq_true rfl) ⟨Nat.le_of_ble_eq_true rfl, Nat.le_of_ble_eq_true rfl⟩ (fun _ => OW ct A s h fl qv tx len) (fun _ => [zi (if ltF ((s.2.1) (foF (idP (s.1) ((s.1 i % 1000 : Nat) : Int)) (s.2.2.2.2.1)).toNat) 0 = 0 then -2 else ((96 + ltF ((s.2.1) (foF (idP (s.1) ((s.1 i % 1000 : Nat) : Int)) (s.2.2.2.2.1)).toNat) 0 : Nat) : Int)), .long ((31 : Int64) * (((31 : Int64) * (((31 : Int64) * (tdA s i)) + ((zI ((s.1 i % 1000 : Nat) : Int)).toInt64))) + ((zI ((s.1 i / 1000 : Nat) : Int)).toInt64)))]) (fun _ => rfl) rfl (fun _ => rfl) (fun _ _ => ?_)
        refine z_top (y := (leF (s.2.1 i) 0)) (by rw [hid9] <;> rfl) ?_
        refine z_i2l Z dL_told_65 ?_
        refine z_ladd Z dL_told_66 ?_
        refine z_lstore_n Z dL_told_67 [(1, .long (((31 : Int64) * (((31 : Int64) * (((31 : Int64) * (tdA s i)) + ((zI ((s.1 i % 1000 : Nat) : Int)).toInt64))) + ((zI ((s.1 i / 1000 : Nat) : Int)).toInt64))) + ((zI (leF (s.2.1 i) 0)).toInt64))), (4, zi ((s.1 i % 1000 : Nat) : Int)), (0, .ref (A.1 0)), (3, zi ((i : Nat) : Int))] (by decide) rfl ?_
        refine z_ldc2 Z dL_told_68 zlk_L_told_27 ?_
        refine z_ldc2 Z dL_told_71 zlk_L_told_27 ?_
        refine z_lload_n Z dL_told_74 0 rfl ?_
        refine z_lmul Z dL_told_75 ?_
        refine z_aload_n Z dL_told_76 2 rfl ?_
        refine z_iload Z dL_told_77 1 rfl ?_
        refine z_iconst (v := 1) Z dL_told_79 rfl ?_
        refine z_callVw (rest := [.long ((31 : Int64) * (((31 : Int64) * (((31 : Int64) * (((31 : Int64) * (tdA s i)) + ((zI ((s.1 i % 1000 : Nat) : Int)).toInt64))) + ((zI ((s.1 i / 1000 : Nat) : Int)).toInt64))) + ((zI (leF (s.2.1 i) 0)).toInt64))), .long (31 : Int64)]) Z dL_told_80 5 0 _ _ rfl rfl rfl (zc_X6_letterOf l D ct (A.1 0) (A.1 1) (A.1 2) (A.1 3) (A.1 4) (A.1 5) (A.1 6) (A.1 7) (A.1 8) (A.1 9) (A.1 10) (A.1 11) (s.1) (s.2.1) (s.2.2.1) (s.2.2.2.1) (s.2.2.2.2.1) (s.2.2.2.2.2.1) (s.2.2.2.2.2.2.1) (s.2.2.2.2.2.2.2) (A.1 12) (A.1 13) (h.1) (h.2.1) (A.2.1) (A.2.2.2.1) (h.2.2) (A.2.2.1) (fl) (A.2.2.2.2) (qv) (tx) (len) (((s.1 i % 1000 : Nat) : Int)) (1) (k.1.1.1.1) (k.1.1.1.2.1) (k.1.1.1.2.2.1) (k.1.1.1.2.2.2.1) (k.1.1.2) (k.1.1.1.2.2.2.2) (k.2.1.1) (k.2.1.2) (hA.1) (hA.2) (k.2.2.1) (k.2.2.2.1) (k.2.2.2.2) (by first | assumption | omega) (by first | assumption | omega) (by rw [hid9]; omega)) rfl (cwV 2 Z.1.2.2.2.2 gL_told_X6_letterOf rfl rfl rfl (by decide +kernel) ⟨Nat.le_of_ble_eq_true rfl, Nat.le_of_ble_eq_true rfl⟩) rfl (Nat.le_of_ble_eq_true rfl) ⟨Nat.le_of_ble_eq_true rfl, Nat.le_of_ble_eq_true rfl⟩ (fun _ => OW ct A s h fl qv tx len) (fun _ => [zi (if ltF ((s.2.1) (foF (idP (s.1) ((s.1 i % 1000 : Nat) : Int)) (s.2.2.2.2.1)).toNat) 1 = 0 then -2 else ((96 + ltF ((s.2.1) (foF (idP (s.1) ((s.1 i % 1000 : Nat) : Int)) (s.2.2.2.2.1)).toNat) 1 : Nat) : Int)), .long ((31 : Int64) * (((31 : Int64) * (((31 : Int64) * (((31 : Int64) * (tdA s i)) + ((zI ((s.1 i % 1000 : Nat) : Int)).toInt64))) + ((zI ((s.1 i / 1000 : Nat) : Int)).toInt64))) + ((zI (leF (s.2.1 i) 0)).toInt64))), .long (31 : Int64)]) (fun _ => rfl) rfl (fun _ => rfl) (fun _ _ => ?_)
        refine z_top (y := (leF (s.2.1 i) 1)) (by rw [hid9] <;> rfl) ?_
        refine z_i2l Z dL_told_83 ?_
        refine z_ladd Z dL_told_84 ?_
        refine z_lmul Z dL_told_85 ?_
        refine z_aload_n Z dL_told_86 2 rfl ?_
        refine z_iload Z dL_told_87 1 rfl ?_
        refine z_iconst (v := 2) Z dL_told_89 rfl ?_
        refine z_callVw (rest := [.long ((31 : Int64) * (((31 : Int64) * (((31 : Int64) * (((31 : Int64) * (((31 : Int64) * (tdA s i)) + ((zI ((s.1 i % 1000 : Nat) : Int)).toInt64))) + ((zI ((s.1 i / 1000 : Nat) : Int)).toInt64))) + ((zI (leF (s.2.1 i) 0)).toInt64))) + ((zI (leF (s.2.1 i) 1)).toInt64)))]) Z dL_told_90 5 0 _ _ rfl rfl rfl (zc_X6_letterOf l D ct (A.1 0) (A.1 1) (A.1 2) (A.1 3) (A.1 4) (A.1 5) (A.1 6) (A.1 7) (A.1 8) (A.1 9) (A.1 10) (A.1 11) (s.1) (s.2.1) (s.2.2.1) (s.2.2.2.1) (s.2.2.2.2.1) (s.2.2.2.2.2.1) (s.2.2.2.2.2.2.1) (s.2.2.2.2.2.2.2) (A.1 12) (A.1 13) (h.1) (h.2.1) (A.2.1) (A.2.2.2.1) (h.2.2) (A.2.2.1) (fl) (A.2.2.2.2) (qv) (tx) (len) (((s.1 i % 1000 : Nat) : Int)) (2) (k.1.1.1.1) (k.1.1.1.2.1) (k.1.1.1.2.2.1) (k.1.1.1.2.2.2.1) (k.1.1.2) (k.1.1.1.2.2.2.2) (k.2.1.1) (k.2.1.2) (hA.1) (hA.2) (k.2.2.1) (k.2.2.2.1) (k.2.2.2.2) (by first | assumption | omega) (by first | assumption | omega) (by rw [hid9]; omega)) rfl (cwV 2 Z.1.2.2.2.2 gL_told_X6_letterOf rfl rfl rfl (by decide +kernel) ⟨Nat.le_of_ble_eq_true rfl, Nat.le_of_ble_eq_true rfl⟩) rfl (Nat.le_of_ble_eq_true rfl) ⟨Nat.le_of_ble_eq_true rfl, Nat.le_of_ble_eq_true rfl⟩ (fun _ => OW ct A s h fl qv tx len) (fun _ => [zi (if ltF ((s.2.1) (foF (idP (s.1) ((s.1 i % 1000 : Nat) : Int)) (s.2.2.2.2.1)).toNat) 2 = 0 then -2 else ((96 + ltF ((s.2.1) (foF (idP (s.1) ((s.1 i % 1000 : Nat) : Int)) (s.2.2.2.2.1)).toNat) 2 : Nat) : Int)), .long ((31 : Int64) * (((31 : Int64) * (((31 : Int64) * (((31 : Int64) * (((31 : Int64) * (tdA s i)) + ((zI ((s.1 i % 1000 : Nat) : Int)).toInt64))) + ((zI ((s.1 i / 1000 : Nat) : Int)).toInt64))) + ((zI (leF (s.2.1 i) 0)).toInt64))) + ((zI (leF (s.2.1 i) 1)).toInt64)))]) (fun _ => rfl) rfl (fun _ => rfl) (fun _ _ => ?_)
        refine z_top (y := (leF (s.2.1 i) 2)) (by rw [hid9] <;> rfl) ?_
        refine z_i2l Z dL_told_93 ?_
        refine z_ladd Z dL_told_94 ?_
        refine z_lstore_n Z dL_told_95 [(1, .long (((31 : Int64) * (((31 : Int64) * (((31 : Int64) * (((31 : Int64) * (((31 : Int64) * (tdA s i)) + ((zI ((s.1 i % 1000 : Nat) : Int)).toInt64))) + ((zI ((s.1 i / 1000 : Nat) : Int)).toInt64))) + ((zI (leF (s.2.1 i) 0)).toInt64))) + ((zI (leF (s.2.1 i) 1)).toInt64))) + ((zI (leF (s.2.1 i) 2)).toInt64))), (4, zi ((s.1 i % 1000 : Nat) : Int)), (0, .ref (A.1 0)), (3, zi ((i : Nat) : Int))] (by decide) rfl ?_
        refine z_iinc (v := ((i + 1 : Nat) : Int)) Z dL_told_96 3 [(3, zi ((i + 1 : Nat) : Int)), (1, .long (((31 : Int64) * (((31 : Int64) * (((31 : Int64) * (((31 : Int64) * (((31 : Int64) * (tdA s i)) + ((zI ((s.1 i % 1000 : Nat) : Int)).toInt64))) + ((zI ((s.1 i / 1000 : Nat) : Int)).toInt64))) + ((zI (leF (s.2.1 i) 0)).toInt64))) + ((zI (leF (s.2.1 i) 1)).toInt64))) + ((zI (leF (s.2.1 i) 2)).toInt64))), (4, zi ((s.1 i % 1000 : Nat) : Int)), (0, .ref (A.1 0))] rfl (by omega) (by decide) rfl ?_
        refine z_goto Z 18 dL_told_99 (by decide) ?_
        refine z_lsub [3, 1, 0] [(0, .ref (A.1 0)), (1, .long (((31 : Int64) * (((31 : Int64) * (((31 : Int64) * (((31 : Int64) * (((31 : Int64) * (tdA s i)) + ((zI ((s.1 i % 1000 : Nat) : Int)).toInt64))) + ((zI ((s.1 i / 1000 : Nat) : Int)).toInt64))) + ((zI (leF (s.2.1 i) 0)).toInt64))) + ((zI (leF (s.2.1 i) 1)).toInt64))) + ((zI (leF (s.2.1 i) 2)).toInt64))), (3, zi ((i + 1 : Nat) : Int))] rfl ?_
        exact ih0 (i + 1) _ (by omega) (by first | rfl | omega)  (by first | assumption | omega)
  exact LOOP18 (s.2.2.2.2.1 + 1 - 0 + 1) 0 _ (Nat.lt_succ_self _) (by first | rfl | omega)  (by first | assumption | omega)
