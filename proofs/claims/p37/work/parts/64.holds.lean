/-! the law's holds -/
set_option maxHeartbeats 8000000 in
set_option maxRecDepth 100000 in
theorem zc_L_holds (l : Launch) (D : va_G) (ct : zCT) (A : AdV) (s : StV) (h : HsV) (fl : Nat → Int) (qv : Nat → StV) (tx : Nat → Nat) (len : Nat)  (hA : okA A) (k : okW s h fl qv tx len)  : zMet l yL_holds wsL_holds ({ frames := 4, cells := 0, slots := 0, locals := 89 } : Room) D ct [.ref (A.1 0)] (OW ct A s h fl qv tx len) (fun _ : Unit => True) (fun _ => some (zi (1))) (fun _ => (OW ct A s h fl qv tx len)) 0 0 := by
  refine zMet_z (cc := cL_holds) (maxL := 8) (r := fun _ => 1) (by decide) rfl (Nat.le_of_ble_eq_true rfl) (fun _ _ => rfl) ?_
  intro p e s9 m below meth c A9 Q Z hnm hR
  refine z_eqs _ [(0, .ref (A.1 0))] _ rfl rfl rfl ?_
  have hc40 : s.2.2.2.2.1 ≤ 40 := k.1.1.1.1
  have hll := lcF_le s.2.2.1 64
  have hL9 : lcF s.2.2.1 64 + s.2.2.2.2.2.2.1 = 1 + s.2.2.2.2.2.1 := k.1.2.2.2.1
  refine z_iconst (v := 0) Z dL_holds_0 rfl ?_
  refine z_istore_n Z dL_holds_1 [(1, zi 0), (0, .ref (A.1 0))] (by decide) rfl ?_
  refine z_iconst (v := 0) Z dL_holds_2 rfl ?_
  refine z_istore_n Z dL_holds_3 [(2, zi 0), (1, zi 0), (0, .ref (A.1 0))] (by decide) rfl ?_
  refine z_iconst (v := -1) Z dL_holds_4 rfl ?_
  refine z_istore_n Z dL_holds_5 [(3, zi (-1)), (2, zi 0), (1, zi 0), (0, .ref (A.1 0))] (by decide) rfl ?_
  refine z_aload_n Z dL_holds_6 3 rfl ?_
  refine z_callVw (rest := []) Z dL_holds_7 5 0 _ _ rfl rfl rfl (zc_X6_entries l D ct (A.1 0) (A.1 1) (A.1 2) (A.1 3) (A.1 4) (A.1 5) (A.1 6) (A.1 7) (A.1 8) (A.1 9) (A.1 10) (A.1 11) (s.1) (s.2.1) (s.2.2.1) (s.2.2.2.1) (s.2.2.2.2.1) (s.2.2.2.2.2.1) (s.2.2.2.2.2.2.1) (s.2.2.2.2.2.2.2) (A.1 12) (A.1 13) (h.1) (h.2.1) (A.2.1) (A.2.2.2.1) (h.2.2) (A.2.2.1) (fl) (A.2.2.2.2) (qv) (tx) (len) (k.1.1.1.1) (k.1.1.1.2.1) (k.1.1.1.2.2.1) (k.1.1.1.2.2.2.1) (k.1.1.2) (k.1.1.1.2.2.2.2) (k.2.1.1) (k.2.1.2) (hA.1) (hA.2) (k.2.2.1) (k.2.2.2.1) (k.2.2.2.2)) rfl (cwV 0 Z.1.2.2.2.2 gL_holds_X6_entries rfl rfl rfl (by decide +kernel) ⟨Nat.le_of_ble_eq_true rfl, Nat.le_of_ble_eq_true rfl⟩) rfl (Nat.le_of_ble_eq_true rfl) ⟨Nat.le_of_ble_eq_true rfl, Nat.le_of_ble_eq_true rfl⟩ (fun _ => OW ct A s h fl qv tx len) (fun _ => [zi (((s.2.2.2.2.1) : Nat) : Int)]) (fun _ => rfl) rfl (fun _ => rfl) (fun _ _ => ?_)
  refine z_bipush (v := 40) Z dL_holds_10 (by decide +kernel) ?_
  refine z_icmp_gt Z 46 dL_holds_12 (by decide) (by omega) (by omega) (fun h12 => ?_) (fun h12 => ?_)
  · exfalso; first | contradiction | omega
  · refine z_aload_n Z dL_holds_15 3 rfl ?_
    refine z_callVw (rest := []) Z dL_holds_16 5 0 _ _ rfl rfl rfl (zc_X6_leaves l D ct (A.1 0) (A.1 1) (A.1 2) (A.1 3) (A.1 4) (A.1 5) (A.1 6) (A.1 7) (A.1 8) (A.1 9) (A.1 10) (A.1 11) (s.1) (s.2.1) (s.2.2.1) (s.2.2.2.1) (s.2.2.2.2.1) (s.2.2.2.2.2.1) (s.2.2.2.2.2.2.1) (s.2.2.2.2.2.2.2) (A.1 12) (A.1 13) (h.1) (h.2.1) (A.2.1) (A.2.2.2.1) (h.2.2) (A.2.2.1) (fl) (A.2.2.2.2) (qv) (tx) (len) (k.1.1.1.1) (k.1.1.1.2.1) (k.1.1.1.2.2.1) (k.1.1.1.2.2.2.1) (k.1.1.2) (k.1.1.1.2.2.2.2) (k.2.1.1) (k.2.1.2) (hA.1) (hA.2) (k.2.2.1) (k.2.2.2.1) (k.2.2.2.2)) rfl (cwV 0 Z.1.2.2.2.2 gL_holds_X6_leaves rfl rfl rfl (by decide +kernel) ⟨Nat.le_of_ble_eq_true rfl, Nat.le_of_ble_eq_true rfl⟩) rfl (Nat.le_of_ble_eq_true rfl) ⟨Nat.le_of_ble_eq_true rfl, Nat.le_of_ble_eq_true rfl⟩ (fun _ => OW ct A s h fl qv tx len) (fun _ => [zi ((lcF (s.2.2.1) 64 : Nat) : Int)]) (fun _ => rfl) rfl (fun _ => rfl) (fun _ _ => ?_)
    refine z_iconst (v := 1) Z dL_holds_19 rfl ?_
    refine z_aload_n Z dL_holds_20 3 rfl ?_
    refine z_callVw (rest := [zi 1, zi ((lcF (s.2.2.1) 64 : Nat) : Int)]) Z dL_holds_21 5 0 _ _ rfl rfl rfl (zc_X6_splits l D ct (A.1 0) (A.1 1) (A.1 2) (A.1 3) (A.1 4) (A.1 5) (A.1 6) (A.1 7) (A.1 8) (A.1 9) (A.1 10) (A.1 11) (s.1) (s.2.1) (s.2.2.1) (s.2.2.2.1) (s.2.2.2.2.1) (s.2.2.2.2.2.1) (s.2.2.2.2.2.2.1) (s.2.2.2.2.2.2.2) (A.1 12) (A.1 13) (h.1) (h.2.1) (A.2.1) (A.2.2.2.1) (h.2.2) (A.2.2.1) (fl) (A.2.2.2.2) (qv) (tx) (len) (k.1.1.1.1) (k.1.1.1.2.1) (k.1.1.1.2.2.1) (k.1.1.1.2.2.2.1) (k.1.1.2) (k.1.1.1.2.2.2.2) (k.2.1.1) (k.2.1.2) (hA.1) (hA.2) (k.2.2.1) (k.2.2.2.1) (k.2.2.2.2)) rfl (cwV 0 Z.1.2.2.2.2 gL_holds_X6_splits rfl rfl rfl (by decide +kernel) ⟨Nat.le_of_ble_eq_true rfl, Nat.le_of_ble_eq_true rfl⟩) rfl (Nat.le_of_ble_eq_true rfl) ⟨Nat.le_of_ble_eq_true rfl, Nat.le_of_ble_eq_true rfl⟩ (fun _ => OW ct A s h fl qv tx len) (fun _ => [zi (((s.2.2.2.2.2.1) : Nat) : Int), zi 1, zi ((lcF (s.2.2.1) 64 : Nat) : Int)]) (fun _ => rfl) rfl (fun _ => rfl) (fun _ _ => ?_)
    refine z_iadd Z dL_holds_24 ?_
    refine z_top (y := ((1 + (s.2.2.2.2.2.1) : Nat) : Int)) (by omega) ?_
    refine z_aload_n Z dL_holds_25 3 rfl ?_
    refine z_callVw (rest := [zi ((1 + (s.2.2.2.2.2.1) : Nat) : Int), zi ((lcF (s.2.2.1) 64 : Nat) : Int)]) Z dL_holds_26 5 0 _ _ rfl rfl rfl (zc_X6_merges l D ct (A.1 0) (A.1 1) (A.1 2) (A.1 3) (A.1 4) (A.1 5) (A.1 6) (A.1 7) (A.1 8) (A.1 9) (A.1 10) (A.1 11) (s.1) (s.2.1) (s.2.2.1) (s.2.2.2.1) (s.2.2.2.2.1) (s.2.2.2.2.2.1) (s.2.2.2.2.2.2.1) (s.2.2.2.2.2.2.2) (A.1 12) (A.1 13) (h.1) (h.2.1) (A.2.1) (A.2.2.2.1) (h.2.2) (A.2.2.1) (fl) (A.2.2.2.2) (qv) (tx) (len) (k.1.1.1.1) (k.1.1.1.2.1) (k.1.1.1.2.2.1) (k.1.1.1.2.2.2.1) (k.1.1.2) (k.1.1.1.2.2.2.2) (k.2.1.1) (k.2.1.2) (hA.1) (hA.2) (k.2.2.1) (k.2.2.2.1) (k.2.2.2.2)) rfl (cwV 0 Z.1.2.2.2.2 gL_holds_X6_merges rfl rfl rfl (by decide +kernel) ⟨Nat.le_of_ble_eq_true rfl, Nat.le_of_ble_eq_true rfl⟩) rfl (Nat.le_of_ble_eq_true rfl) ⟨Nat.le_of_ble_eq_true rfl, Nat.le_of_ble_eq_true rfl⟩ (fun _ => OW ct A s h fl qv tx len) (fun _ => [zi (((s.2.2.2.2.2.2.1) : Nat) : Int), zi ((1 + (s.2.2.2.2.2.1) : Nat) : Int), zi ((lcF (s.2.2.1) 64 : Nat) : Int)]) (fun _ => rfl) rfl (fun _ => rfl) (fun _ _ => ?_)
    refine z_isub Z dL_holds_29 ?_
    refine z_icmp_ne Z 46 dL_holds_30 (by decide) (by omega) (by omega) (fun h30 => ?_) (fun h30 => ?_)
    · exfalso; first | contradiction | omega
    · refine z_aload_n Z dL_holds_33 3 rfl ?_
      refine z_callVw (rest := []) Z dL_holds_34 5 0 _ _ rfl rfl rfl (zc_X6_leaves l D ct (A.1 0) (A.1 1) (A.1 2) (A.1 3) (A.1 4) (A.1 5) (A.1 6) (A.1 7) (A.1 8) (A.1 9) (A.1 10) (A.1 11) (s.1) (s.2.1) (s.2.2.1) (s.2.2.2.1) (s.2.2.2.2.1) (s.2.2.2.2.2.1) (s.2.2.2.2.2.2.1) (s.2.2.2.2.2.2.2) (A.1 12) (A.1 13) (h.1) (h.2.1) (A.2.1) (A.2.2.2.1) (h.2.2) (A.2.2.1) (fl) (A.2.2.2.2) (qv) (tx) (len) (k.1.1.1.1) (k.1.1.1.2.1) (k.1.1.1.2.2.1) (k.1.1.1.2.2.2.1) (k.1.1.2) (k.1.1.1.2.2.2.2) (k.2.1.1) (k.2.1.2) (hA.1) (hA.2) (k.2.2.1) (k.2.2.2.1) (k.2.2.2.2)) rfl (cwV 0 Z.1.2.2.2.2 gL_holds_X6_leaves rfl rfl rfl (by decide +kernel) ⟨Nat.le_of_ble_eq_true rfl, Nat.le_of_ble_eq_true rfl⟩) rfl (Nat.le_of_ble_eq_true rfl) ⟨Nat.le_of_ble_eq_true rfl, Nat.le_of_ble_eq_true rfl⟩ (fun _ => OW ct A s h fl qv tx len) (fun _ => [zi ((lcF (s.2.2.1) 64 : Nat) : Int)]) (fun _ => rfl) rfl (fun _ => rfl) (fun _ _ => ?_)
      refine z_bipush (v := 64) Z dL_holds_37 (by decide +kernel) ?_
      refine z_icmp_gt Z 46 dL_holds_39 (by decide) (by omega) (by omega) (fun h39 => ?_) (fun h39 => ?_)
      · exfalso; first | contradiction | omega
      · refine z_iconst (v := 1) Z dL_holds_42 rfl ?_
        refine z_goto Z 47 dL_holds_43 (by decide) ?_
        refine z_istore Z dL_holds_47 [(4, zi 1), (3, zi (-1)), (2, zi 0), (1, zi 0), (0, .ref (A.1 0))] (by decide) rfl ?_
        refine z_iconst (v := 0) Z dL_holds_49 rfl ?_
        refine z_istore Z dL_holds_50 [(5, zi 0), (4, zi 1), (3, zi (-1)), (2, zi 0), (1, zi 0), (0, .ref (A.1 0))] (by decide) rfl ?_
        refine z_lsub [5, 4, 3, 2, 1, 0] [(0, .ref (A.1 0)), (1, zi 0), (2, zi 0), (3, zi (-1)), (4, zi 1), (5, zi 0)] rfl ?_
        have LOOP52 : ∀ (N0 : Nat) (i : Nat) (x1 : Int) (x2 : Int) (x5 : Int), 65 - i < N0 → x1 = ((lcF s.2.2.1 i : Nat) : Int) → x2 = ((waF s i : Nat) : Int) → x5 = ((i : Nat) : Int) → (i ≤ 64) → zW p l e ({ frames := 4, cells := 0, slots := 0, locals := 89 } : Room) s9 m ([.ref (A.1 0)] : List Value).toArray below meth c D A9 8 Q 0 0 (OW ct A s h fl qv tx len) [(0, .ref (A.1 0)), (1, zi x1), (2, zi x2), (3, zi (-1)), (4, zi 1), (5, zi x5)] 52 [] := by
          intro N0
          induction N0 with
          | zero => intro i x1 x2 x5 hm0; exact absurd hm0 (Nat.not_lt_zero _)
          | succ N0 ih0 =>
            intro i x1 x2 x5 hm0 ex1 ex2 ex5 hi
            subst ex1
            subst ex2
            subst ex5
            refine z_iload Z dL_holds_52 5 rfl ?_
            refine z_bipush (v := 64) Z dL_holds_54 (by decide +kernel) ?_
            refine z_icmp_ge Z 200 dL_holds_56 (by decide) (by omega) (by omega) (fun h56 => ?_) (fun h56 => ?_)
            · have hi9 : i = 64 := by omega
              subst hi9
              refine z_iconst (v := 0) Z dL_holds_200 rfl ?_
              refine z_istore Z dL_holds_201 [(5, zi 0), (0, .ref (A.1 0)), (1, zi ((lcF s.2.2.1 64 : Nat) : Int)), (2, zi ((waF s 64 : Nat) : Int)), (3, zi (-1)), (4, zi 1)] (by decide) rfl ?_
              refine z_lsub [1, 2, 3, 4, 5, 0] [(0, .ref (A.1 0)), (1, zi ((lcF s.2.2.1 64 : Nat) : Int)), (2, zi ((waF s 64 : Nat) : Int)), (3, zi (-1)), (4, zi 1), (5, zi 0)] rfl ?_
              have LOOP203 : ∀ (N1 : Nat) (i : Nat) (x3 : Int) (x5 : Int), s.2.2.2.2.1 + 1 - i < N1 → x3 = (laF s i) → x5 = ((i : Nat) : Int) → (i ≤ s.2.2.2.2.1) → zW p l e ({ frames := 4, cells := 0, slots := 0, locals := 89 } : Room) s9 m ([.ref (A.1 0)] : List Value).toArray below meth c D A9 8 Q 0 0 (OW ct A s h fl qv tx len) [(0, .ref (A.1 0)), (1, zi ((lcF s.2.2.1 64 : Nat) : Int)), (2, zi ((waF s 64 : Nat) : Int)), (3, zi x3), (4, zi 1), (5, zi x5)] 203 [] := by
                intro N1
                induction N1 with
                | zero => intro i x3 x5 hm1; exact absurd hm1 (Nat.not_lt_zero _)
                | succ N1 ih1 =>
                  intro i x3 x5 hm1 ex3 ex5 hi
                  subst ex3
                  subst ex5
                  refine z_iload Z dL_holds_203 5 rfl ?_
                  refine z_aload_n Z dL_holds_205 0 rfl ?_
                  refine z_callVw (rest := [zi ((i : Nat) : Int)]) Z dL_holds_206 5 0 _ _ rfl rfl rfl (zc_X6_entries l D ct (A.1 0) (A.1 1) (A.1 2) (A.1 3) (A.1 4) (A.1 5) (A.1 6) (A.1 7) (A.1 8) (A.1 9) (A.1 10) (A.1 11) (s.1) (s.2.1) (s.2.2.1) (s.2.2.2.1) (s.2.2.2.2.1) (s.2.2.2.2.2.1) (s.2.2.2.2.2.2.1) (s.2.2.2.2.2.2.2) (A.1 12) (A.1 13) (h.1) (h.2.1) (A.2.1) (A.2.2.2.1) (h.2.2) (A.2.2.1) (fl) (A.2.2.2.2) (qv) (tx) (len) (k.1.1.1.1) (k.1.1.1.2.1) (k.1.1.1.2.2.1) (k.1.1.1.2.2.2.1) (k.1.1.2) (k.1.1.1.2.2.2.2) (k.2.1.1) (k.2.1.2) (hA.1) (hA.2) (k.2.2.1) (k.2.2.2.1) (k.2.2.2.2)) rfl (cwV 0 Z.1.2.2.2.2 gL_holds_X6_entries rfl rfl rfl (by decide +kernel) ⟨Nat.le_of_ble_eq_true rfl, Nat.le_of_ble_eq_true rfl⟩) rfl (Nat.le_of_ble_eq_true rfl) ⟨Nat.le_of_ble_eq_true rfl, Nat.le_of_ble_eq_true rfl⟩ (fun _ => OW ct A s h fl qv tx len) (fun _ => [zi (((s.2.2.2.2.1) : Nat) : Int), zi ((i : Nat) : Int)]) (fun _ => rfl) rfl (fun _ => rfl) (fun _ _ => ?_)
                  refine z_icmp_ge Z 292 dL_holds_209 (by decide) (by omega) (by omega) (fun h209 => ?_) (fun h209 => ?_)
                  · have hwa := waF_64 k.1
                    refine z_iload Z dL_holds_292 4 rfl ?_
                    refine z_if_eq Z 346 dL_holds_294 (by decide) (by omega) (fun h294 => ?_) (fun h294 => ?_)
                    · exfalso; first | contradiction | omega
                    · refine z_iload_n Z dL_holds_297 1 rfl ?_
                      refine z_aload_n Z dL_holds_298 0 rfl ?_
                      refine z_callVw (rest := [zi ((lcF s.2.2.1 64 : Nat) : Int)]) Z dL_holds_299 5 0 _ _ rfl rfl rfl (zc_X6_leaves l D ct (A.1 0) (A.1 1) (A.1 2) (A.1 3) (A.1 4) (A.1 5) (A.1 6) (A.1 7) (A.1 8) (A.1 9) (A.1 10) (A.1 11) (s.1) (s.2.1) (s.2.2.1) (s.2.2.2.1) (s.2.2.2.2.1) (s.2.2.2.2.2.1) (s.2.2.2.2.2.2.1) (s.2.2.2.2.2.2.2) (A.1 12) (A.1 13) (h.1) (h.2.1) (A.2.1) (A.2.2.2.1) (h.2.2) (A.2.2.1) (fl) (A.2.2.2.2) (qv) (tx) (len) (k.1.1.1.1) (k.1.1.1.2.1) (k.1.1.1.2.2.1) (k.1.1.1.2.2.2.1) (k.1.1.2) (k.1.1.1.2.2.2.2) (k.2.1.1) (k.2.1.2) (hA.1) (hA.2) (k.2.2.1) (k.2.2.2.1) (k.2.2.2.2)) rfl (cwV 0 Z.1.2.2.2.2 gL_holds_X6_leaves rfl rfl rfl (by decide +kernel) ⟨Nat.le_of_ble_eq_true rfl, Nat.le_of_ble_eq_true rfl⟩) rfl (Nat.le_of_ble_eq_true rfl) ⟨Nat.le_of_ble_eq_true rfl, Nat.le_of_ble_eq_true rfl⟩ (fun _ => OW ct A s h fl qv tx len) (fun _ => [zi ((lcF (s.2.2.1) 64 : Nat) : Int), zi ((lcF s.2.2.1 64 : Nat) : Int)]) (fun _ => rfl) rfl (fun _ => rfl) (fun _ _ => ?_)
                      refine z_icmp_ne Z 346 dL_holds_302 (by decide) (by omega) (by omega) (fun h302 => ?_) (fun h302 => ?_)
                      · exfalso; first | contradiction | omega
                      · refine z_iload_n Z dL_holds_305 2 rfl ?_
                        refine z_aload_n Z dL_holds_306 0 rfl ?_
                        refine z_callVw (rest := [zi ((waF s 64 : Nat) : Int)]) Z dL_holds_307 5 0 _ _ rfl rfl rfl (zc_X6_entries l D ct (A.1 0) (A.1 1) (A.1 2) (A.1 3) (A.1 4) (A.1 5) (A.1 6) (A.1 7) (A.1 8) (A.1 9) (A.1 10) (A.1 11) (s.1) (s.2.1) (s.2.2.1) (s.2.2.2.1) (s.2.2.2.2.1) (s.2.2.2.2.2.1) (s.2.2.2.2.2.2.1) (s.2.2.2.2.2.2.2) (A.1 12) (A.1 13) (h.1) (h.2.1) (A.2.1) (A.2.2.2.1) (h.2.2) (A.2.2.1) (fl) (A.2.2.2.2) (qv) (tx) (len) (k.1.1.1.1) (k.1.1.1.2.1) (k.1.1.1.2.2.1) (k.1.1.1.2.2.2.1) (k.1.1.2) (k.1.1.1.2.2.2.2) (k.2.1.1) (k.2.1.2) (hA.1) (hA.2) (k.2.2.1) (k.2.2.2.1) (k.2.2.2.2)) rfl (cwV 0 Z.1.2.2.2.2 gL_holds_X6_entries rfl rfl rfl (by decide +kernel) ⟨Nat.le_of_ble_eq_true rfl, Nat.le_of_ble_eq_true rfl⟩) rfl (Nat.le_of_ble_eq_true rfl) ⟨Nat.le_of_ble_eq_true rfl, Nat.le_of_ble_eq_true rfl⟩ (fun _ => OW ct A s h fl qv tx len) (fun _ => [zi (((s.2.2.2.2.1) : Nat) : Int), zi ((waF s 64 : Nat) : Int)]) (fun _ => rfl) rfl (fun _ => rfl) (fun _ _ => ?_)
                        refine z_icmp_ne Z 346 dL_holds_310 (by decide) (by omega) (by omega) (fun h310 => ?_) (fun h310 => ?_)
                        · exfalso; first | contradiction | omega
                        · refine z_aload_n Z dL_holds_313 0 rfl ?_
                          refine z_aload_n Z dL_holds_314 0 rfl ?_
                          refine z_callVw (rest := [.ref (A.1 0)]) Z dL_holds_315 5 0 _ _ rfl rfl rfl (zc_X6_entries l D ct (A.1 0) (A.1 1) (A.1 2) (A.1 3) (A.1 4) (A.1 5) (A.1 6) (A.1 7) (A.1 8) (A.1 9) (A.1 10) (A.1 11) (s.1) (s.2.1) (s.2.2.1) (s.2.2.2.1) (s.2.2.2.2.1) (s.2.2.2.2.2.1) (s.2.2.2.2.2.2.1) (s.2.2.2.2.2.2.2) (A.1 12) (A.1 13) (h.1) (h.2.1) (A.2.1) (A.2.2.2.1) (h.2.2) (A.2.2.1) (fl) (A.2.2.2.2) (qv) (tx) (len) (k.1.1.1.1) (k.1.1.1.2.1) (k.1.1.1.2.2.1) (k.1.1.1.2.2.2.1) (k.1.1.2) (k.1.1.1.2.2.2.2) (k.2.1.1) (k.2.1.2) (hA.1) (hA.2) (k.2.2.1) (k.2.2.2.1) (k.2.2.2.2)) rfl (cwV 0 Z.1.2.2.2.2 gL_holds_X6_entries rfl rfl rfl (by decide +kernel) ⟨Nat.le_of_ble_eq_true rfl, Nat.le_of_ble_eq_true rfl⟩) rfl (Nat.le_of_ble_eq_true rfl) ⟨Nat.le_of_ble_eq_true rfl, Nat.le_of_ble_eq_true rfl⟩ (fun _ => OW ct A s h fl qv tx len) (fun _ => [zi (((s.2.2.2.2.1) : Nat) : Int), .ref (A.1 0)]) (fun _ => rfl) rfl (fun _ => rfl) (fun _ _ => ?_)
                          refine z_callVw (rest := []) Z dL_holds_318 5 0 _ _ rfl rfl rfl (zc_X6_idAt l D ct (A.1 0) (A.1 1) (A.1 2) (A.1 3) (A.1 4) (A.1 5) (A.1 6) (A.1 7) (A.1 8) (A.1 9) (A.1 10) (A.1 11) (s.1) (s.2.1) (s.2.2.1) (s.2.2.2.1) (s.2.2.2.2.1) (s.2.2.2.2.2.1) (s.2.2.2.2.2.2.1) (s.2.2.2.2.2.2.2) (A.1 12) (A.1 13) (h.1) (h.2.1) (A.2.1) (A.2.2.2.1) (h.2.2) (A.2.2.1) (fl) (A.2.2.2.2) (qv) (tx) (len) (s.2.2.2.2.1) (k.1.1.1.1) (k.1.1.1.2.1) (k.1.1.1.2.2.1) (k.1.1.1.2.2.2.1) (k.1.1.2) (k.1.1.1.2.2.2.2) (k.2.1.1) (k.2.1.2) (hA.1) (hA.2) (k.2.2.1) (k.2.2.2.1) (k.2.2.2.2) (by first | assumption | omega)) rfl (cwV 1 Z.1.2.2.2.2 gL_holds_X6_idAt rfl rfl rfl (by decide +kernel) ⟨Nat.le_of_ble_eq_true rfl, Nat.le_of_ble_eq_true rfl⟩) rfl (Nat.le_of_ble_eq_true rfl) ⟨Nat.le_of_ble_eq_true rfl, Nat.le_of_ble_eq_true rfl⟩ (fun _ => OW ct A s h fl qv tx len) (fun _ => [zi (if (s.2.2.2.2.1) < (s.2.2.2.2.1) then (((s.1) (s.2.2.2.2.1) % 1000 : Nat) : Int) else -2)]) (fun _ => rfl) rfl (fun _ => rfl) (fun _ _ => ?_)
                          refine z_top (y := (-2)) (by rw [if_neg (by omega)]) ?_
                          refine z_bipush (v := -2) Z dL_holds_321 (by decide +kernel) ?_
                          refine z_icmp_ne Z 346 dL_holds_323 (by decide) (by omega) (by omega) (fun h323 => ?_) (fun h323 => ?_)
                          · exfalso; first | contradiction | omega
                          · refine z_aload_n Z dL_holds_326 0 rfl ?_
                            refine z_callVw (rest := []) Z dL_holds_327 5 0 _ _ rfl rfl rfl (zc_X6_meanLeafSize l D ct (A.1 0) (A.1 1) (A.1 2) (A.1 3) (A.1 4) (A.1 5) (A.1 6) (A.1 7) (A.1 8) (A.1 9) (A.1 10) (A.1 11) (s.1) (s.2.1) (s.2.2.1) (s.2.2.2.1) (s.2.2.2.2.1) (s.2.2.2.2.2.1) (s.2.2.2.2.2.2.1) (s.2.2.2.2.2.2.2) (A.1 12) (A.1 13) (h.1) (h.2.1) (A.2.1) (A.2.2.2.1) (h.2.2) (A.2.2.1) (fl) (A.2.2.2.2) (qv) (tx) (len) (k.1.1.1.1) (k.1.1.1.2.1) (k.1.1.1.2.2.1) (k.1.1.1.2.2.2.1) (k.1.1.2) (k.1.1.1.2.2.2.2) (k.2.1.1) (k.2.1.2) (hA.1) (hA.2) (k.2.2.1) (k.2.2.2.1) (k.2.2.2.2)) rfl (cwV 0 Z.1.2.2.2.2 gL_holds_X6_meanLeafSize rfl rfl rfl (by decide +kernel) ⟨Nat.le_of_ble_eq_true rfl, Nat.le_of_ble_eq_true rfl⟩) rfl (Nat.le_of_ble_eq_true rfl) ⟨Nat.le_of_ble_eq_true rfl, Nat.le_of_ble_eq_true rfl⟩ (fun _ => OW ct A s h fl qv tx len) (fun _ => [.float (FP.fdiv (FP.i2f (zI (((s.2.2.2.2.1) : Nat) : Int))) (FP.i2f (zI ((lcF (s.2.2.1) 64 : Nat) : Int))))]) (fun _ => rfl) rfl (fun _ => rfl) (fun _ _ => ?_)
                            refine z_aload_n Z dL_holds_330 0 rfl ?_
                            refine z_callVw (rest := [.float (FP.fdiv (FP.i2f (zI (((s.2.2.2.2.1) : Nat) : Int))) (FP.i2f (zI ((lcF (s.2.2.1) 64 : Nat) : Int))))]) Z dL_holds_331 5 0 _ _ rfl rfl rfl (zc_X6_entries l D ct (A.1 0) (A.1 1) (A.1 2) (A.1 3) (A.1 4) (A.1 5) (A.1 6) (A.1 7) (A.1 8) (A.1 9) (A.1 10) (A.1 11) (s.1) (s.2.1) (s.2.2.1) (s.2.2.2.1) (s.2.2.2.2.1) (s.2.2.2.2.2.1) (s.2.2.2.2.2.2.1) (s.2.2.2.2.2.2.2) (A.1 12) (A.1 13) (h.1) (h.2.1) (A.2.1) (A.2.2.2.1) (h.2.2) (A.2.2.1) (fl) (A.2.2.2.2) (qv) (tx) (len) (k.1.1.1.1) (k.1.1.1.2.1) (k.1.1.1.2.2.1) (k.1.1.1.2.2.2.1) (k.1.1.2) (k.1.1.1.2.2.2.2) (k.2.1.1) (k.2.1.2) (hA.1) (hA.2) (k.2.2.1) (k.2.2.2.1) (k.2.2.2.2)) rfl (cwV 0 Z.1.2.2.2.2 gL_holds_X6_entries rfl rfl rfl (by decide +kernel) ⟨Nat.le_of_ble_eq_true rfl, Nat.le_of_ble_eq_true rfl⟩) rfl (Nat.le_of_ble_eq_true rfl) ⟨Nat.le_of_ble_eq_true rfl, Nat.le_of_ble_eq_true rfl⟩ (fun _ => OW ct A s h fl qv tx len) (fun _ => [zi (((s.2.2.2.2.1) : Nat) : Int), .float (FP.fdiv (FP.i2f (zI (((s.2.2.2.2.1) : Nat) : Int))) (FP.i2f (zI ((lcF (s.2.2.1) 64 : Nat) : Int))))]) (fun _ => rfl) rfl (fun _ => rfl) (fun _ _ => ?_)
                            refine z_i2f Z dL_holds_334 ?_
                            refine z_iload_n Z dL_holds_335 1 rfl ?_
                            refine z_i2f Z dL_holds_336 ?_
                            refine z_fdiv Z dL_holds_337 (fdv_ok hc40 (lcF_pos _) (lcF_le _ 64)) ?_
                            refine z_fcmp0 Z dL_holds_338 (fcm_ok hc40 (lcF_pos _) (lcF_le _ 64)) ?_
                            refine z_if_ne Z 346 dL_holds_339 (by decide) (by omega) (fun h339 => ?_) (fun h339 => ?_)
                            · exfalso; first | contradiction | omega
                            · refine z_iconst (v := 1) Z dL_holds_342 rfl ?_
                              refine z_goto Z 347 dL_holds_343 (by decide) ?_
                              refine z_eqs (OW ct A s h fl qv tx len) _ [zi 1] (rfl) rfl (rfl) ?_
                              exact hR _ _ () trivial dL_holds_347
                  · have hicn : i < s.2.2.2.2.1 := by omega
                    have hla := laF_lt k.1 hicn
                    have hk9 := k.1.1.1.2.1 i (by omega)
                    have hle := leF_0 k.1 hicn
                    refine z_iload Z dL_holds_212 4 rfl ?_
                    refine z_if_eq Z 292 dL_holds_214 (by decide) (by omega) (fun h214 => ?_) (fun h214 => ?_)
                    · exfalso; first | contradiction | omega
                    · refine z_aload_n Z dL_holds_217 0 rfl ?_
                      refine z_iload Z dL_holds_218 5 rfl ?_
                      refine z_callVw (rest := []) Z dL_holds_220 5 0 _ _ rfl rfl rfl (zc_X6_idAt l D ct (A.1 0) (A.1 1) (A.1 2) (A.1 3) (A.1 4) (A.1 5) (A.1 6) (A.1 7) (A.1 8) (A.1 9) (A.1 10) (A.1 11) (s.1) (s.2.1) (s.2.2.1) (s.2.2.2.1) (s.2.2.2.2.1) (s.2.2.2.2.2.1) (s.2.2.2.2.2.2.1) (s.2.2.2.2.2.2.2) (A.1 12) (A.1 13) (h.1) (h.2.1) (A.2.1) (A.2.2.2.1) (h.2.2) (A.2.2.1) (fl) (A.2.2.2.2) (qv) (tx) (len) (i) (k.1.1.1.1) (k.1.1.1.2.1) (k.1.1.1.2.2.1) (k.1.1.1.2.2.2.1) (k.1.1.2) (k.1.1.1.2.2.2.2) (k.2.1.1) (k.2.1.2) (hA.1) (hA.2) (k.2.2.1) (k.2.2.2.1) (k.2.2.2.2) (by first | assumption | omega)) rfl (cwV 1 Z.1.2.2.2.2 gL_holds_X6_idAt rfl rfl rfl (by decide +kernel) ⟨Nat.le_of_ble_eq_true rfl, Nat.le_of_ble_eq_true rfl⟩) rfl (Nat.le_of_ble_eq_true rfl) ⟨Nat.le_of_ble_eq_true rfl, Nat.le_of_ble_eq_true rfl⟩ (fun _ => OW ct A s h fl qv tx len) (fun _ => [zi (if i < (s.2.2.2.2.1) then (((s.1) i % 1000 : Nat) : Int) else -2)]) (fun _ => rfl) rfl (fun _ => rfl) (fun _ _ => ?_)
                      have hid9 := fo_id k.1 (k := i) (by omega)
                      refine z_top (y := ((s.1 i % 1000 : Nat) : Int)) (by rw [if_pos (by omega)]) ?_
                      refine z_istore Z dL_holds_223 [(6, zi ((s.1 i % 1000 : Nat) : Int)), (0, .ref (A.1 0)), (1, zi ((lcF s.2.2.1 64 : Nat) : Int)), (2, zi ((waF s 64 : Nat) : Int)), (3, zi (laF s i)), (4, zi 1), (5, zi ((i : Nat) : Int))] (by decide) rfl ?_
                      refine z_sipush (v := 1000) Z dL_holds_225 (by decide +kernel) ?_
                      refine z_aload_n Z dL_holds_228 1 rfl ?_
                      refine z_iload Z dL_holds_229 0 rfl ?_
                      refine z_callVw (rest := [zi 1000]) Z dL_holds_231 5 0 _ _ rfl rfl rfl (zc_X6_hashOf l D ct (A.1 0) (A.1 1) (A.1 2) (A.1 3) (A.1 4) (A.1 5) (A.1 6) (A.1 7) (A.1 8) (A.1 9) (A.1 10) (A.1 11) (s.1) (s.2.1) (s.2.2.1) (s.2.2.2.1) (s.2.2.2.2.1) (s.2.2.2.2.2.1) (s.2.2.2.2.2.2.1) (s.2.2.2.2.2.2.2) (A.1 12) (A.1 13) (h.1) (h.2.1) (A.2.1) (A.2.2.2.1) (h.2.2) (A.2.2.1) (fl) (A.2.2.2.2) (qv) (tx) (len) (((s.1 i % 1000 : Nat) : Int)) (k.1.1.1.1) (k.1.1.1.2.1) (k.1.1.1.2.2.1) (k.1.1.1.2.2.2.1) (k.1.1.2) (k.1.1.1.2.2.2.2) (k.2.1.1) (k.2.1.2) (hA.1) (hA.2) (k.2.2.1) (k.2.2.2.1) (k.2.2.2.2) (by first | assumption | omega) (by rw [hid9]; omega)) rfl (cwV 1 Z.1.2.2.2.2 gL_holds_X6_hashOf rfl rfl rfl (by decide +kernel) ⟨Nat.le_of_ble_eq_true rfl, Nat.le_of_ble_eq_true rfl⟩) rfl (Nat.le_of_ble_eq_true rfl) ⟨Nat.le_of_ble_eq_true rfl, Nat.le_of_ble_eq_true rfl⟩ (fun _ => OW ct A s h fl qv tx len) (fun _ => [zi (((s.1) (foF (idP (s.1) ((s.1 i % 1000 : Nat) : Int)) (s.2.2.2.2.1)).toNat / 1000 : Nat) : Int), zi 1000]) (fun _ => rfl) rfl (fun _ => rfl) (fun _ _ => ?_)
                      refine z_top (y := ((s.1 i / 1000 : Nat) : Int)) (by rw [hid9] <;> rfl) ?_
                      refine z_imul Z dL_holds_234 ?_
                      refine z_top (y := ((1000 * (s.1 i / 1000) : Nat) : Int)) (by omega) ?_
                      refine z_iload Z dL_holds_235 0 rfl ?_
                      refine z_iadd Z dL_holds_237 ?_
                      refine z_top (y := ((s.1 i : Nat) : Int)) (by omega) ?_
                      refine z_istore Z dL_holds_238 [(7, zi ((s.1 i : Nat) : Int)), (6, zi ((s.1 i % 1000 : Nat) : Int)), (0, .ref (A.1 0)), (1, zi ((lcF s.2.2.1 64 : Nat) : Int)), (2, zi ((waF s 64 : Nat) : Int)), (3, zi (laF s i)), (4, zi 1), (5, zi ((i : Nat) : Int))] (by decide) rfl ?_
                      refine z_iload Z dL_holds_240 1 rfl ?_
                      refine z_if_lt Z 280 dL_holds_242 (by decide) (by omega) (fun h242 => ?_) (fun h242 => ?_)
                      · exfalso; first | contradiction | omega
                      · refine z_iload Z dL_holds_245 0 rfl ?_
                        refine z_iload_n Z dL_holds_247 5 rfl ?_
                        refine z_icmp_le Z 280 dL_holds_248 (by decide) (by omega) (by omega) (fun h248 => ?_) (fun h248 => ?_)
                        · exfalso; first | contradiction | omega
                        · refine z_aload_n Z dL_holds_251 2 rfl ?_
                          refine z_iload Z dL_holds_252 1 rfl ?_
                          refine z_iconst (v := 0) Z dL_holds_254 rfl ?_
                          refine z_callVw (rest := []) Z dL_holds_255 5 0 _ _ rfl rfl rfl (zc_X6_letterOf l D ct (A.1 0) (A.1 1) (A.1 2) (A.1 3) (A.1 4) (A.1 5) (A.1 6) (A.1 7) (A.1 8) (A.1 9) (A.1 10) (A.1 11) (s.1) (s.2.1) (s.2.2.1) (s.2.2.2.1) (s.2.2.2.2.1) (s.2.2.2.2.2.1) (s.2.2.2.2.2.2.1) (s.2.2.2.2.2.2.2) (A.1 12) (A.1 13) (h.1) (h.2.1) (A.2.1) (A.2.2.2.1) (h.2.2) (A.2.2.1) (fl) (A.2.2.2.2) (qv) (tx) (len) (((s.1 i % 1000 : Nat) : Int)) (0) (k.1.1.1.1) (k.1.1.1.2.1) (k.1.1.1.2.2.1) (k.1.1.1.2.2.2.1) (k.1.1.2) (k.1.1.1.2.2.2.2) (k.2.1.1) (k.2.1.2) (hA.1) (hA.2) (k.2.2.1) (k.2.2.2.1) (k.2.2.2.2) (by first | assumption | omega) (by first | assumption | omega) (by rw [hid9]; omega)) rfl (cwV 2 Z.1.2.2.2.2 gL_holds_X6_letterOf rfl rfl rfl (by decide +kernel) ⟨Nat.le_of_ble_eq_true rfl, Nat.le_of_ble_eq_true rfl⟩) rfl (Nat.le_of_ble_eq_true rfl) ⟨Nat.le_of_ble_eq_true rfl, Nat.le_of_ble_eq_true rfl⟩ (fun _ => OW ct A s h fl qv tx len) (fun _ => [zi (if ltF ((s.2.1) (foF (idP (s.1) ((s.1 i % 1000 : Nat) : Int)) (s.2.2.2.2.1)).toNat) 0 = 0 then -2 else ((96 + ltF ((s.2.1) (foF (idP (s.1) ((s.1 i % 1000 : Nat) : Int)) (s.2.2.2.2.1)).toNat) 0 : Nat) : Int))]) (fun _ => rfl) rfl (fun _ => rfl) (fun _ _ => ?_)
                          refine z_top (y := (leF (s.2.1 i) 0)) (by rw [hid9] <;> rfl) ?_
                          refine z_bipush (v := 97) Z dL_holds_258 (by decide +kernel) ?_
                          refine z_icmp_lt Z 280 dL_holds_260 (by decide) (by omega) (by omega) (fun h260 => ?_) (fun h260 => ?_)
                          · exfalso; first | contradiction | omega
                          · refine z_aload_n Z dL_holds_263 2 rfl ?_
                            refine z_iload Z dL_holds_264 1 rfl ?_
                            refine z_bipush (v := 6) Z dL_holds_266 (by decide +kernel) ?_
                            refine z_callVw (rest := []) Z dL_holds_268 5 0 _ _ rfl rfl rfl (zc_X6_letterOf l D ct (A.1 0) (A.1 1) (A.1 2) (A.1 3) (A.1 4) (A.1 5) (A.1 6) (A.1 7) (A.1 8) (A.1 9) (A.1 10) (A.1 11) (s.1) (s.2.1) (s.2.2.1) (s.2.2.2.1) (s.2.2.2.2.1) (s.2.2.2.2.2.1) (s.2.2.2.2.2.2.1) (s.2.2.2.2.2.2.2) (A.1 12) (A.1 13) (h.1) (h.2.1) (A.2.1) (A.2.2.2.1) (h.2.2) (A.2.2.1) (fl) (A.2.2.2.2) (qv) (tx) (len) (((s.1 i % 1000 : Nat) : Int)) (6) (k.1.1.1.1) (k.1.1.1.2.1) (k.1.1.1.2.2.1) (k.1.1.1.2.2.2.1) (k.1.1.2) (k.1.1.1.2.2.2.2) (k.2.1.1) (k.2.1.2) (hA.1) (hA.2) (k.2.2.1) (k.2.2.2.1) (k.2.2.2.2) (by first | assumption | omega) (by first | assumption | omega) (by rw [hid9]; omega)) rfl (cwV 2 Z.1.2.2.2.2 gL_holds_X6_letterOf rfl rfl rfl (by decide +kernel) ⟨Nat.le_of_ble_eq_true rfl, Nat.le_of_ble_eq_true rfl⟩) rfl (Nat.le_of_ble_eq_true rfl) ⟨Nat.le_of_ble_eq_true rfl, Nat.le_of_ble_eq_true rfl⟩ (fun _ => OW ct A s h fl qv tx len) (fun _ => [zi (if ltF ((s.2.1) (foF (idP (s.1) ((s.1 i % 1000 : Nat) : Int)) (s.2.2.2.2.1)).toNat) 6 = 0 then -2 else ((96 + ltF ((s.2.1) (foF (idP (s.1) ((s.1 i % 1000 : Nat) : Int)) (s.2.2.2.2.1)).toNat) 6 : Nat) : Int))]) (fun _ => rfl) rfl (fun _ => rfl) (fun _ _ => ?_)
                            refine z_top (y := (-2)) (by rw [hid9] <;> rfl) ?_
                            refine z_bipush (v := -2) Z dL_holds_271 (by decide +kernel) ?_
                            refine z_icmp_ne Z 280 dL_holds_273 (by decide) (by omega) (by omega) (fun h273 => ?_) (fun h273 => ?_)
                            · exfalso; first | contradiction | omega
                            · refine z_iconst (v := 1) Z dL_holds_276 rfl ?_
                              refine z_goto Z 281 dL_holds_277 (by decide) ?_
                              refine z_istore Z dL_holds_281 [(4, zi 1), (7, zi ((s.1 i : Nat) : Int)), (6, zi ((s.1 i % 1000 : Nat) : Int)), (0, .ref (A.1 0)), (1, zi ((lcF s.2.2.1 64 : Nat) : Int)), (2, zi ((waF s 64 : Nat) : Int)), (3, zi (laF s i)), (5, zi ((i : Nat) : Int))] (by decide) rfl ?_
                              refine z_iload Z dL_holds_283 1 rfl ?_
                              refine z_istore_n Z dL_holds_285 [(3, zi ((s.1 i : Nat) : Int)), (4, zi 1), (7, zi ((s.1 i : Nat) : Int)), (6, zi ((s.1 i % 1000 : Nat) : Int)), (0, .ref (A.1 0)), (1, zi ((lcF s.2.2.1 64 : Nat) : Int)), (2, zi ((waF s 64 : Nat) : Int)), (5, zi ((i : Nat) : Int))] (by decide) rfl ?_
                              refine z_iinc (v := ((i + 1 : Nat) : Int)) Z dL_holds_286 7 [(5, zi ((i + 1 : Nat) : Int)), (3, zi ((s.1 i : Nat) : Int)), (4, zi 1), (7, zi ((s.1 i : Nat) : Int)), (6, zi ((s.1 i % 1000 : Nat) : Int)), (0, .ref (A.1 0)), (1, zi ((lcF s.2.2.1 64 : Nat) : Int)), (2, zi ((waF s 64 : Nat) : Int))] rfl (by omega) (by decide) rfl ?_
                              refine z_goto Z 203 dL_holds_289 (by decide) ?_
                              refine z_lsub [5, 6, 7, 1, 2, 0] [(0, .ref (A.1 0)), (1, zi ((lcF s.2.2.1 64 : Nat) : Int)), (2, zi ((waF s 64 : Nat) : Int)), (3, zi ((s.1 i : Nat) : Int)), (4, zi 1), (5, zi ((i + 1 : Nat) : Int))] rfl ?_
                              exact ih1 (i + 1) _ _ (by omega) (rfl) (by first | rfl | omega)  (by first | assumption | omega)
              exact LOOP203 (s.2.2.2.2.1 + 1 - 0 + 1) 0 _ _ (Nat.lt_succ_self _) (rfl) (by first | rfl | omega)  (by first | assumption | omega)
            · have hi64 : i < 64 := by omega
              refine z_aload_n Z dL_holds_59 0 rfl ?_
              refine z_iload Z dL_holds_60 5 rfl ?_
              refine z_callVw (rest := []) Z dL_holds_62 5 0 _ _ rfl rfl rfl (zc_X6_depthOf l D ct (A.1 0) (A.1 1) (A.1 2) (A.1 3) (A.1 4) (A.1 5) (A.1 6) (A.1 7) (A.1 8) (A.1 9) (A.1 10) (A.1 11) (s.1) (s.2.1) (s.2.2.1) (s.2.2.2.1) (s.2.2.2.2.1) (s.2.2.2.2.2.1) (s.2.2.2.2.2.2.1) (s.2.2.2.2.2.2.2) (A.1 12) (A.1 13) (h.1) (h.2.1) (A.2.1) (A.2.2.2.1) (h.2.2) (A.2.2.1) (fl) (A.2.2.2.2) (qv) (tx) (len) (i) (k.1.1.1.1) (k.1.1.1.2.1) (k.1.1.1.2.2.1) (k.1.1.1.2.2.2.1) (k.1.1.2) (k.1.1.1.2.2.2.2) (k.2.1.1) (k.2.1.2) (hA.1) (hA.2) (k.2.2.1) (k.2.2.2.1) (k.2.2.2.2) (by first | assumption | omega)) rfl (cwV 1 Z.1.2.2.2.2 gL_holds_X6_depthOf rfl rfl rfl (by decide +kernel) ⟨Nat.le_of_ble_eq_true rfl, Nat.le_of_ble_eq_true rfl⟩) rfl (Nat.le_of_ble_eq_true rfl) ⟨Nat.le_of_ble_eq_true rfl, Nat.le_of_ble_eq_true rfl⟩ (fun _ => OW ct A s h fl qv tx len) (fun _ => [zi (((s.2.2.1) i : Nat) : Int)]) (fun _ => rfl) rfl (fun _ => rfl) (fun _ _ => ?_)
              refine z_istore Z dL_holds_65 [(6, zi (((s.2.2.1) i : Nat) : Int)), (0, .ref (A.1 0)), (1, zi ((lcF s.2.2.1 i : Nat) : Int)), (2, zi ((waF s i : Nat) : Int)), (3, zi (-1)), (4, zi 1), (5, zi ((i : Nat) : Int))] (by decide) rfl ?_
              have hd9 : s.2.2.1 i < 7 := (k.1.2.2.1 i hi64).1
              have hw9 := wdF_rg hd9
              have hf9 := fh_le hi64 hd9
              have hs9 : s.2.2.1 (fhF i (s.2.2.1 i)) = s.2.2.1 i := TD_leaf k.1.2.2.1 hi64 rfl _ (by omega) (bl_id hi64 hd9)
              have hc1 := cbF_le s.1 s.2.2.2.2.1 i 6
              have hc2 := cbF_le s.1 s.2.2.2.2.1 i (s.2.2.1 i)
              have hc3 := cb_ge k.1 hi64
              have hl9 := lcF_le s.2.2.1 i
              have hwf := wd_fh hi64 hd9
              refine z_bipush (v := 64) Z dL_holds_67 (by decide +kernel) ?_
              refine z_iload Z dL_holds_69 0 rfl ?_
              refine z_ishr (v := ((wdF (s.2.2.1 i) : Nat) : Int)) Z dL_holds_71 (zq_shr64 hd9) ?_
              refine z_istore Z dL_holds_72 [(7, zi ((wdF (s.2.2.1 i) : Nat) : Int)), (6, zi (((s.2.2.1) i : Nat) : Int)), (0, .ref (A.1 0)), (1, zi ((lcF s.2.2.1 i : Nat) : Int)), (2, zi ((waF s i : Nat) : Int)), (3, zi (-1)), (4, zi 1), (5, zi ((i : Nat) : Int))] (by decide) rfl ?_
              refine z_iload_n Z dL_holds_74 4 rfl ?_
              refine z_aload_n Z dL_holds_75 2 rfl ?_
              refine z_iload Z dL_holds_76 7 rfl ?_
              refine z_callVw (rest := [zi ((waF s i : Nat) : Int)]) Z dL_holds_78 5 0 _ _ rfl rfl rfl (zc_X6_withHash l D ct (A.1 0) (A.1 1) (A.1 2) (A.1 3) (A.1 4) (A.1 5) (A.1 6) (A.1 7) (A.1 8) (A.1 9) (A.1 10) (A.1 11) (s.1) (s.2.1) (s.2.2.1) (s.2.2.2.1) (s.2.2.2.2.1) (s.2.2.2.2.2.1) (s.2.2.2.2.2.2.1) (s.2.2.2.2.2.2.2) (A.1 12) (A.1 13) (h.1) (h.2.1) (A.2.1) (A.2.2.2.1) (h.2.2) (A.2.2.1) (fl) (A.2.2.2.2) (qv) (tx) (len) (i) (k.1.1.1.1) (k.1.1.1.2.1) (k.1.1.1.2.2.1) (k.1.1.1.2.2.2.1) (k.1.1.2) (k.1.1.1.2.2.2.2) (k.2.1.1) (k.2.1.2) (hA.1) (hA.2) (k.2.2.1) (k.2.2.2.1) (k.2.2.2.2) (by first | assumption | omega)) rfl (cwV 1 Z.1.2.2.2.2 gL_holds_X6_withHash rfl rfl rfl (by decide +kernel) ⟨Nat.le_of_ble_eq_true rfl, Nat.le_of_ble_eq_true rfl⟩) rfl (Nat.le_of_ble_eq_true rfl) ⟨Nat.le_of_ble_eq_true rfl, Nat.le_of_ble_eq_true rfl⟩ (fun _ => OW ct A s h fl qv tx len) (fun _ => [zi ((cbF (s.1) (s.2.2.2.2.1) i 6 : Nat) : Int), zi ((waF s i : Nat) : Int)]) (fun _ => rfl) rfl (fun _ => rfl) (fun _ _ => ?_)
              refine z_iadd Z dL_holds_81 ?_
              refine z_top (y := (((waF s i) + (cbF (s.1) (s.2.2.2.2.1) i 6) : Nat) : Int)) (by omega) ?_
              refine z_istore_n Z dL_holds_82 [(2, zi (((waF s i) + (cbF (s.1) (s.2.2.2.2.1) i 6) : Nat) : Int)), (7, zi ((wdF (s.2.2.1 i) : Nat) : Int)), (6, zi (((s.2.2.1) i : Nat) : Int)), (0, .ref (A.1 0)), (1, zi ((lcF s.2.2.1 i : Nat) : Int)), (3, zi (-1)), (4, zi 1), (5, zi ((i : Nat) : Int))] (by decide) rfl ?_
              refine z_iload_n Z dL_holds_83 4 rfl ?_
              refine z_iload Z dL_holds_84 7 rfl ?_
              refine z_iload Z dL_holds_86 1 rfl ?_
              refine z_irem Z dL_holds_88 (by omega) (by omega) ?_
              refine z_top (y := ((rdF i (s.2.2.1 i) : Nat) : Int)) ((Int.natCast_emod _ _)) ?_
              refine z_if_ne Z 96 dL_holds_89 (by decide) (by omega) (fun h89 => ?_) (fun h89 => ?_)
              · have hlc9 : lcF s.2.2.1 (i + 1) = lcF s.2.2.1 i + 0 := lcF_s0 (fun z => by have := hwf.1.mpr z; omega)
                refine z_iconst (v := 0) Z dL_holds_96 rfl ?_
                refine z_iadd Z dL_holds_97 ?_
                refine z_top (y := (((lcF s.2.2.1 i) + 0 : Nat) : Int)) (by omega) ?_
                refine z_istore_n Z dL_holds_98 [(1, zi (((lcF s.2.2.1 i) + 0 : Nat) : Int)), (2, zi (((waF s i) + (cbF (s.1) (s.2.2.2.2.1) i 6) : Nat) : Int)), (7, zi ((wdF (s.2.2.1 i) : Nat) : Int)), (6, zi (((s.2.2.1) i : Nat) : Int)), (0, .ref (A.1 0)), (3, zi (-1)), (4, zi 1), (5, zi ((i : Nat) : Int))] (by decide) rfl ?_
                refine z_iload Z dL_holds_99 6 rfl ?_
                refine z_if_eq Z 191 dL_holds_101 (by decide) (by omega) (fun h101 => ?_) (fun h101 => ?_)
                · exfalso; first | contradiction | omega
                · refine z_iload Z dL_holds_104 3 rfl ?_
                  refine z_if_lt Z 191 dL_holds_106 (by decide) (by omega) (fun h106 => ?_) (fun h106 => ?_)
                  · exfalso; first | contradiction | omega
                  · refine z_iload Z dL_holds_109 3 rfl ?_
                    refine z_bipush (v := 6) Z dL_holds_111 (by decide +kernel) ?_
                    refine z_icmp_gt Z 191 dL_holds_113 (by decide) (by omega) (by omega) (fun h113 => ?_) (fun h113 => ?_)
                    · exfalso; first | contradiction | omega
                    · refine z_aload_n Z dL_holds_116 4 rfl ?_
                      refine z_iload Z dL_holds_117 7 rfl ?_
                      refine z_iload Z dL_holds_119 2 rfl ?_
                      refine z_idiv Z dL_holds_121 (by omega) (by omega) ?_
                      refine z_top (y := ((qdF i (s.2.2.1 i) : Nat) : Int)) ((Int.natCast_ediv _ _)) ?_
                      refine z_iload Z dL_holds_122 2 rfl ?_
                      refine z_imul Z dL_holds_124 ?_
                      refine z_top (y := ((fhF i (s.2.2.1 i) : Nat) : Int)) (by rw [← fh_qd hd9]; exact Int.natCast_mul _ _) ?_
                      refine z_callVw (rest := []) Z dL_holds_125 5 0 _ _ rfl rfl rfl (zc_X6_depthOf l D ct (A.1 0) (A.1 1) (A.1 2) (A.1 3) (A.1 4) (A.1 5) (A.1 6) (A.1 7) (A.1 8) (A.1 9) (A.1 10) (A.1 11) (s.1) (s.2.1) (s.2.2.1) (s.2.2.2.1) (s.2.2.2.2.1) (s.2.2.2.2.2.1) (s.2.2.2.2.2.2.1) (s.2.2.2.2.2.2.2) (A.1 12) (A.1 13) (h.1) (h.2.1) (A.2.1) (A.2.2.2.1) (h.2.2) (A.2.2.1) (fl) (A.2.2.2.2) (qv) (tx) (len) (fhF i (s.2.2.1 i)) (k.1.1.1.1) (k.1.1.1.2.1) (k.1.1.1.2.2.1) (k.1.1.1.2.2.2.1) (k.1.1.2) (k.1.1.1.2.2.2.2) (k.2.1.1) (k.2.1.2) (hA.1) (hA.2) (k.2.2.1) (k.2.2.2.1) (k.2.2.2.2) (by omega)) rfl (cwV 1 Z.1.2.2.2.2 gL_holds_X6_depthOf rfl rfl rfl (by decide +kernel) ⟨Nat.le_of_ble_eq_true rfl, Nat.le_of_ble_eq_true rfl⟩) rfl (Nat.le_of_ble_eq_true rfl) ⟨Nat.le_of_ble_eq_true rfl, Nat.le_of_ble_eq_true rfl⟩ (fun _ => OW ct A s h fl qv tx len) (fun _ => [zi (((s.2.2.1) (fhF i (s.2.2.1 i)) : Nat) : Int)]) (fun _ => rfl) rfl (fun _ => rfl) (fun _ _ => ?_)
                      refine z_iload Z dL_holds_128 3 rfl ?_
                      refine z_icmp_ne Z 191 dL_holds_130 (by decide) (by omega) (by omega) (fun h130 => ?_) (fun h130 => ?_)
                      · exfalso; first | contradiction | omega
                      · refine z_aload_n Z dL_holds_133 4 rfl ?_
                        refine z_iload Z dL_holds_134 7 rfl ?_
                        refine z_callVw (rest := []) Z dL_holds_136 5 0 _ _ rfl rfl rfl (zc_X6_leafSize l D ct (A.1 0) (A.1 1) (A.1 2) (A.1 3) (A.1 4) (A.1 5) (A.1 6) (A.1 7) (A.1 8) (A.1 9) (A.1 10) (A.1 11) (s.1) (s.2.1) (s.2.2.1) (s.2.2.2.1) (s.2.2.2.2.1) (s.2.2.2.2.2.1) (s.2.2.2.2.2.2.1) (s.2.2.2.2.2.2.2) (A.1 12) (A.1 13) (h.1) (h.2.1) (A.2.1) (A.2.2.2.1) (h.2.2) (A.2.2.1) (fl) (A.2.2.2.2) (qv) (tx) (len) (i) (k.1.1.1.1) (k.1.1.1.2.1) (k.1.1.1.2.2.1) (k.1.1.1.2.2.2.1) (k.1.1.2) (k.1.1.1.2.2.2.2) (k.2.1.1) (k.2.1.2) (hA.1) (hA.2) (k.2.2.1) (k.2.2.2.1) (k.2.2.2.2) (by first | assumption | omega)) rfl (cwV 1 Z.1.2.2.2.2 gL_holds_X6_leafSize rfl rfl rfl (by decide +kernel) ⟨Nat.le_of_ble_eq_true rfl, Nat.le_of_ble_eq_true rfl⟩) rfl (Nat.le_of_ble_eq_true rfl) ⟨Nat.le_of_ble_eq_true rfl, Nat.le_of_ble_eq_true rfl⟩ (fun _ => OW ct A s h fl qv tx len) (fun _ => [zi ((cbF (s.1) (s.2.2.2.2.1) i ((s.2.2.1) i) : Nat) : Int)]) (fun _ => rfl) rfl (fun _ => rfl) (fun _ _ => ?_)
                        refine z_aload_n Z dL_holds_139 4 rfl ?_
                        refine z_iload Z dL_holds_140 7 rfl ?_
                        refine z_callVw (rest := [zi ((cbF (s.1) (s.2.2.2.2.1) i ((s.2.2.1) i) : Nat) : Int)]) Z dL_holds_142 5 0 _ _ rfl rfl rfl (zc_X6_withHash l D ct (A.1 0) (A.1 1) (A.1 2) (A.1 3) (A.1 4) (A.1 5) (A.1 6) (A.1 7) (A.1 8) (A.1 9) (A.1 10) (A.1 11) (s.1) (s.2.1) (s.2.2.1) (s.2.2.2.1) (s.2.2.2.2.1) (s.2.2.2.2.2.1) (s.2.2.2.2.2.2.1) (s.2.2.2.2.2.2.2) (A.1 12) (A.1 13) (h.1) (h.2.1) (A.2.1) (A.2.2.2.1) (h.2.2) (A.2.2.1) (fl) (A.2.2.2.2) (qv) (tx) (len) (i) (k.1.1.1.1) (k.1.1.1.2.1) (k.1.1.1.2.2.1) (k.1.1.1.2.2.2.1) (k.1.1.2) (k.1.1.1.2.2.2.2) (k.2.1.1) (k.2.1.2) (hA.1) (hA.2) (k.2.2.1) (k.2.2.2.1) (k.2.2.2.2) (by first | assumption | omega)) rfl (cwV 1 Z.1.2.2.2.2 gL_holds_X6_withHash rfl rfl rfl (by decide +kernel) ⟨Nat.le_of_ble_eq_true rfl, Nat.le_of_ble_eq_true rfl⟩) rfl (Nat.le_of_ble_eq_true rfl) ⟨Nat.le_of_ble_eq_true rfl, Nat.le_of_ble_eq_true rfl⟩ (fun _ => OW ct A s h fl qv tx len) (fun _ => [zi ((cbF (s.1) (s.2.2.2.2.1) i 6 : Nat) : Int), zi ((cbF (s.1) (s.2.2.2.2.1) i ((s.2.2.1) i) : Nat) : Int)]) (fun _ => rfl) rfl (fun _ => rfl) (fun _ _ => ?_)
                        refine z_icmp_lt Z 191 dL_holds_145 (by decide) (by omega) (by omega) (fun h145 => ?_) (fun h145 => ?_)
                        · exfalso; first | contradiction | omega
                        · refine z_iload Z dL_holds_148 3 rfl ?_
                          refine z_bipush (v := 6) Z dL_holds_150 (by decide +kernel) ?_
                          refine z_icmp_eq Z 165 dL_holds_152 (by decide) (by omega) (by omega) (fun h152 => ?_) (fun h152 => ?_)
                          · have hc4 : cbF s.1 s.2.2.2.2.1 i (s.2.2.1 i) = cbF s.1 s.2.2.2.2.1 i 6 := by rw [show s.2.2.1 i = 6 from by omega]
                            refine z_iload Z dL_holds_165 3 rfl ?_
                            refine z_bipush (v := 6) Z dL_holds_167 (by decide +kernel) ?_
                            refine z_icmp_lt Z 187 dL_holds_169 (by decide) (by omega) (by omega) (fun h169 => ?_) (fun h169 => ?_)
                            · exfalso; first | contradiction | omega
                            · refine z_aload_n Z dL_holds_172 4 rfl ?_
                              refine z_iload Z dL_holds_173 7 rfl ?_
                              refine z_callVw (rest := []) Z dL_holds_175 5 0 _ _ rfl rfl rfl (zc_X6_leafSize l D ct (A.1 0) (A.1 1) (A.1 2) (A.1 3) (A.1 4) (A.1 5) (A.1 6) (A.1 7) (A.1 8) (A.1 9) (A.1 10) (A.1 11) (s.1) (s.2.1) (s.2.2.1) (s.2.2.2.1) (s.2.2.2.2.1) (s.2.2.2.2.2.1) (s.2.2.2.2.2.2.1) (s.2.2.2.2.2.2.2) (A.1 12) (A.1 13) (h.1) (h.2.1) (A.2.1) (A.2.2.2.1) (h.2.2) (A.2.2.1) (fl) (A.2.2.2.2) (qv) (tx) (len) (i) (k.1.1.1.1) (k.1.1.1.2.1) (k.1.1.1.2.2.1) (k.1.1.1.2.2.2.1) (k.1.1.2) (k.1.1.1.2.2.2.2) (k.2.1.1) (k.2.1.2) (hA.1) (hA.2) (k.2.2.1) (k.2.2.2.1) (k.2.2.2.2) (by first | assumption | omega)) rfl (cwV 1 Z.1.2.2.2.2 gL_holds_X6_leafSize rfl rfl rfl (by decide +kernel) ⟨Nat.le_of_ble_eq_true rfl, Nat.le_of_ble_eq_true rfl⟩) rfl (Nat.le_of_ble_eq_true rfl) ⟨Nat.le_of_ble_eq_true rfl, Nat.le_of_ble_eq_true rfl⟩ (fun _ => OW ct A s h fl qv tx len) (fun _ => [zi ((cbF (s.1) (s.2.2.2.2.1) i ((s.2.2.1) i) : Nat) : Int)]) (fun _ => rfl) rfl (fun _ => rfl) (fun _ _ => ?_)
                              refine z_aload_n Z dL_holds_178 4 rfl ?_
                              refine z_iload Z dL_holds_179 7 rfl ?_
                              refine z_callVw (rest := [zi ((cbF (s.1) (s.2.2.2.2.1) i ((s.2.2.1) i) : Nat) : Int)]) Z dL_holds_181 5 0 _ _ rfl rfl rfl (zc_X6_withHash l D ct (A.1 0) (A.1 1) (A.1 2) (A.1 3) (A.1 4) (A.1 5) (A.1 6) (A.1 7) (A.1 8) (A.1 9) (A.1 10) (A.1 11) (s.1) (s.2.1) (s.2.2.1) (s.2.2.2.1) (s.2.2.2.2.1) (s.2.2.2.2.2.1) (s.2.2.2.2.2.2.1) (s.2.2.2.2.2.2.2) (A.1 12) (A.1 13) (h.1) (h.2.1) (A.2.1) (A.2.2.2.1) (h.2.2) (A.2.2.1) (fl) (A.2.2.2.2) (qv) (tx) (len) (i) (k.1.1.1.1) (k.1.1.1.2.1) (k.1.1.1.2.2.1) (k.1.1.1.2.2.2.1) (k.1.1.2) (k.1.1.1.2.2.2.2) (k.2.1.1) (k.2.1.2) (hA.1) (hA.2) (k.2.2.1) (k.2.2.2.1) (k.2.2.2.2) (by first | assumption | omega)) rfl (cwV 1 Z.1.2.2.2.2 gL_holds_X6_withHash rfl rfl rfl (by decide +kernel) ⟨Nat.le_of_ble_eq_true rfl, Nat.le_of_ble_eq_true rfl⟩) rfl (Nat.le_of_ble_eq_true rfl) ⟨Nat.le_of_ble_eq_true rfl, Nat.le_of_ble_eq_true rfl⟩ (fun _ => OW ct A s h fl qv tx len) (fun _ => [zi ((cbF (s.1) (s.2.2.2.2.1) i 6 : Nat) : Int), zi ((cbF (s.1) (s.2.2.2.2.1) i ((s.2.2.1) i) : Nat) : Int)]) (fun _ => rfl) rfl (fun _ => rfl) (fun _ _ => ?_)
                              refine z_icmp_ne Z 191 dL_holds_184 (by decide) (by omega) (by omega) (fun h184 => ?_) (fun h184 => ?_)
                              · exfalso; first | contradiction | omega
                              · refine z_iconst (v := 1) Z dL_holds_187 rfl ?_
                                refine z_goto Z 192 dL_holds_188 (by decide) ?_
                                refine z_istore Z dL_holds_192 [(4, zi 1), (1, zi (((lcF s.2.2.1 i) + 0 : Nat) : Int)), (2, zi (((waF s i) + (cbF (s.1) (s.2.2.2.2.1) i 6) : Nat) : Int)), (7, zi ((wdF (s.2.2.1 i) : Nat) : Int)), (6, zi (((s.2.2.1) i : Nat) : Int)), (0, .ref (A.1 0)), (3, zi (-1)), (5, zi ((i : Nat) : Int))] (by decide) rfl ?_
                                refine z_iinc (v := ((i + 1 : Nat) : Int)) Z dL_holds_194 7 [(5, zi ((i + 1 : Nat) : Int)), (4, zi 1), (1, zi (((lcF s.2.2.1 i) + 0 : Nat) : Int)), (2, zi (((waF s i) + (cbF (s.1) (s.2.2.2.2.1) i 6) : Nat) : Int)), (7, zi ((wdF (s.2.2.1 i) : Nat) : Int)), (6, zi (((s.2.2.1) i : Nat) : Int)), (0, .ref (A.1 0)), (3, zi (-1))] rfl (by omega) (by decide) rfl ?_
                                refine z_goto Z 52 dL_holds_197 (by decide) ?_
                                refine z_lsub [6, 2, 3, 7, 1, 0] [(0, .ref (A.1 0)), (1, zi (((lcF s.2.2.1 i) + 0 : Nat) : Int)), (2, zi (((waF s i) + (cbF (s.1) (s.2.2.2.2.1) i 6) : Nat) : Int)), (3, zi (-1)), (4, zi 1), (5, zi ((i + 1 : Nat) : Int))] rfl ?_
                                exact ih0 (i + 1) _ _ _ (by omega) (by omega) (rfl) (by first | rfl | omega)  (by first | assumption | omega)
                          · have hc4 := cb_4 k.1 hi64 (by omega)
                            refine z_aload_n Z dL_holds_155 4 rfl ?_
                            refine z_iload Z dL_holds_156 7 rfl ?_
                            refine z_callVw (rest := []) Z dL_holds_158 5 0 _ _ rfl rfl rfl (zc_X6_leafSize l D ct (A.1 0) (A.1 1) (A.1 2) (A.1 3) (A.1 4) (A.1 5) (A.1 6) (A.1 7) (A.1 8) (A.1 9) (A.1 10) (A.1 11) (s.1) (s.2.1) (s.2.2.1) (s.2.2.2.1) (s.2.2.2.2.1) (s.2.2.2.2.2.1) (s.2.2.2.2.2.2.1) (s.2.2.2.2.2.2.2) (A.1 12) (A.1 13) (h.1) (h.2.1) (A.2.1) (A.2.2.2.1) (h.2.2) (A.2.2.1) (fl) (A.2.2.2.2) (qv) (tx) (len) (i) (k.1.1.1.1) (k.1.1.1.2.1) (k.1.1.1.2.2.1) (k.1.1.1.2.2.2.1) (k.1.1.2) (k.1.1.1.2.2.2.2) (k.2.1.1) (k.2.1.2) (hA.1) (hA.2) (k.2.2.1) (k.2.2.2.1) (k.2.2.2.2) (by first | assumption | omega)) rfl (cwV 1 Z.1.2.2.2.2 gL_holds_X6_leafSize rfl rfl rfl (by decide +kernel) ⟨Nat.le_of_ble_eq_true rfl, Nat.le_of_ble_eq_true rfl⟩) rfl (Nat.le_of_ble_eq_true rfl) ⟨Nat.le_of_ble_eq_true rfl, Nat.le_of_ble_eq_true rfl⟩ (fun _ => OW ct A s h fl qv tx len) (fun _ => [zi ((cbF (s.1) (s.2.2.2.2.1) i ((s.2.2.1) i) : Nat) : Int)]) (fun _ => rfl) rfl (fun _ => rfl) (fun _ _ => ?_)
                            refine z_iconst (v := 4) Z dL_holds_161 rfl ?_
                            refine z_icmp_gt Z 191 dL_holds_162 (by decide) (by omega) (by omega) (fun h162 => ?_) (fun h162 => ?_)
                            · exfalso; first | contradiction | omega
                            · refine z_iload Z dL_holds_165 3 rfl ?_
                              refine z_bipush (v := 6) Z dL_holds_167 (by decide +kernel) ?_
                              refine z_icmp_lt Z 187 dL_holds_169 (by decide) (by omega) (by omega) (fun h169 => ?_) (fun h169 => ?_)
                              · refine z_iconst (v := 1) Z dL_holds_187 rfl ?_
                                refine z_goto Z 192 dL_holds_188 (by decide) ?_
                                refine z_istore Z dL_holds_192 [(4, zi 1), (1, zi (((lcF s.2.2.1 i) + 0 : Nat) : Int)), (2, zi (((waF s i) + (cbF (s.1) (s.2.2.2.2.1) i 6) : Nat) : Int)), (7, zi ((wdF (s.2.2.1 i) : Nat) : Int)), (6, zi (((s.2.2.1) i : Nat) : Int)), (0, .ref (A.1 0)), (3, zi (-1)), (5, zi ((i : Nat) : Int))] (by decide) rfl ?_
                                refine z_iinc (v := ((i + 1 : Nat) : Int)) Z dL_holds_194 7 [(5, zi ((i + 1 : Nat) : Int)), (4, zi 1), (1, zi (((lcF s.2.2.1 i) + 0 : Nat) : Int)), (2, zi (((waF s i) + (cbF (s.1) (s.2.2.2.2.1) i 6) : Nat) : Int)), (7, zi ((wdF (s.2.2.1 i) : Nat) : Int)), (6, zi (((s.2.2.1) i : Nat) : Int)), (0, .ref (A.1 0)), (3, zi (-1))] rfl (by omega) (by decide) rfl ?_
                                refine z_goto Z 52 dL_holds_197 (by decide) ?_
                                refine z_lsub [6, 2, 3, 7, 1, 0] [(0, .ref (A.1 0)), (1, zi (((lcF s.2.2.1 i) + 0 : Nat) : Int)), (2, zi (((waF s i) + (cbF (s.1) (s.2.2.2.2.1) i 6) : Nat) : Int)), (3, zi (-1)), (4, zi 1), (5, zi ((i + 1 : Nat) : Int))] rfl ?_
                                exact ih0 (i + 1) _ _ _ (by omega) (by omega) (rfl) (by first | rfl | omega)  (by first | assumption | omega)
                              · exfalso; first | contradiction | omega
              · have hlc9 : lcF s.2.2.1 (i + 1) = lcF s.2.2.1 i + 1 := lcF_s1 (hwf.1.mp (by omega))
                refine z_iconst (v := 1) Z dL_holds_92 rfl ?_
                refine z_goto Z 97 dL_holds_93 (by decide) ?_
                refine z_iadd Z dL_holds_97 ?_
                refine z_top (y := (((lcF s.2.2.1 i) + 1 : Nat) : Int)) (by omega) ?_
                refine z_istore_n Z dL_holds_98 [(1, zi (((lcF s.2.2.1 i) + 1 : Nat) : Int)), (2, zi (((waF s i) + (cbF (s.1) (s.2.2.2.2.1) i 6) : Nat) : Int)), (7, zi ((wdF (s.2.2.1 i) : Nat) : Int)), (6, zi (((s.2.2.1) i : Nat) : Int)), (0, .ref (A.1 0)), (3, zi (-1)), (4, zi 1), (5, zi ((i : Nat) : Int))] (by decide) rfl ?_
                refine z_iload Z dL_holds_99 6 rfl ?_
                refine z_if_eq Z 191 dL_holds_101 (by decide) (by omega) (fun h101 => ?_) (fun h101 => ?_)
                · exfalso; first | contradiction | omega
                · refine z_iload Z dL_holds_104 3 rfl ?_
                  refine z_if_lt Z 191 dL_holds_106 (by decide) (by omega) (fun h106 => ?_) (fun h106 => ?_)
                  · exfalso; first | contradiction | omega
                  · refine z_iload Z dL_holds_109 3 rfl ?_
                    refine z_bipush (v := 6) Z dL_holds_111 (by decide +kernel) ?_
                    refine z_icmp_gt Z 191 dL_holds_113 (by decide) (by omega) (by omega) (fun h113 => ?_) (fun h113 => ?_)
                    · exfalso; first | contradiction | omega
                    · refine z_aload_n Z dL_holds_116 4 rfl ?_
                      refine z_iload Z dL_holds_117 7 rfl ?_
                      refine z_iload Z dL_holds_119 2 rfl ?_
                      refine z_idiv Z dL_holds_121 (by omega) (by omega) ?_
                      refine z_top (y := ((qdF i (s.2.2.1 i) : Nat) : Int)) ((Int.natCast_ediv _ _)) ?_
                      refine z_iload Z dL_holds_122 2 rfl ?_
                      refine z_imul Z dL_holds_124 ?_
                      refine z_top (y := ((fhF i (s.2.2.1 i) : Nat) : Int)) (by rw [← fh_qd hd9]; exact Int.natCast_mul _ _) ?_
                      refine z_callVw (rest := []) Z dL_holds_125 5 0 _ _ rfl rfl rfl (zc_X6_depthOf l D ct (A.1 0) (A.1 1) (A.1 2) (A.1 3) (A.1 4) (A.1 5) (A.1 6) (A.1 7) (A.1 8) (A.1 9) (A.1 10) (A.1 11) (s.1) (s.2.1) (s.2.2.1) (s.2.2.2.1) (s.2.2.2.2.1) (s.2.2.2.2.2.1) (s.2.2.2.2.2.2.1) (s.2.2.2.2.2.2.2) (A.1 12) (A.1 13) (h.1) (h.2.1) (A.2.1) (A.2.2.2.1) (h.2.2) (A.2.2.1) (fl) (A.2.2.2.2) (qv) (tx) (len) (fhF i (s.2.2.1 i)) (k.1.1.1.1) (k.1.1.1.2.1) (k.1.1.1.2.2.1) (k.1.1.1.2.2.2.1) (k.1.1.2) (k.1.1.1.2.2.2.2) (k.2.1.1) (k.2.1.2) (hA.1) (hA.2) (k.2.2.1) (k.2.2.2.1) (k.2.2.2.2) (by omega)) rfl (cwV 1 Z.1.2.2.2.2 gL_holds_X6_depthOf rfl rfl rfl (by decide +kernel) ⟨Nat.le_of_ble_eq_true rfl, Nat.le_of_ble_eq_true rfl⟩) rfl (Nat.le_of_ble_eq_true rfl) ⟨Nat.le_of_ble_eq_true rfl, Nat.le_of_ble_eq_true rfl⟩ (fun _ => OW ct A s h fl qv tx len) (fun _ => [zi (((s.2.2.1) (fhF i (s.2.2.1 i)) : Nat) : Int)]) (fun _ => rfl) rfl (fun _ => rfl) (fun _ _ => ?_)
                      refine z_iload Z dL_holds_128 3 rfl ?_
                      refine z_icmp_ne Z 191 dL_holds_130 (by decide) (by omega) (by omega) (fun h130 => ?_) (fun h130 => ?_)
                      · exfalso; first | contradiction | omega
                      · refine z_aload_n Z dL_holds_133 4 rfl ?_
                        refine z_iload Z dL_holds_134 7 rfl ?_
                        refine z_callVw (rest := []) Z dL_holds_136 5 0 _ _ rfl rfl rfl (zc_X6_leafSize l D ct (A.1 0) (A.1 1) (A.1 2) (A.1 3) (A.1 4) (A.1 5) (A.1 6) (A.1 7) (A.1 8) (A.1 9) (A.1 10) (A.1 11) (s.1) (s.2.1) (s.2.2.1) (s.2.2.2.1) (s.2.2.2.2.1) (s.2.2.2.2.2.1) (s.2.2.2.2.2.2.1) (s.2.2.2.2.2.2.2) (A.1 12) (A.1 13) (h.1) (h.2.1) (A.2.1) (A.2.2.2.1) (h.2.2) (A.2.2.1) (fl) (A.2.2.2.2) (qv) (tx) (len) (i) (k.1.1.1.1) (k.1.1.1.2.1) (k.1.1.1.2.2.1) (k.1.1.1.2.2.2.1) (k.1.1.2) (k.1.1.1.2.2.2.2) (k.2.1.1) (k.2.1.2) (hA.1) (hA.2) (k.2.2.1) (k.2.2.2.1) (k.2.2.2.2) (by first | assumption | omega)) rfl (cwV 1 Z.1.2.2.2.2 gL_holds_X6_leafSize rfl rfl rfl (by decide +kernel) ⟨Nat.le_of_ble_eq_true rfl, Nat.le_of_ble_eq_true rfl⟩) rfl (Nat.le_of_ble_eq_true rfl) ⟨Nat.le_of_ble_eq_true rfl, Nat.le_of_ble_eq_true rfl⟩ (fun _ => OW ct A s h fl qv tx len) (fun _ => [zi ((cbF (s.1) (s.2.2.2.2.1) i ((s.2.2.1) i) : Nat) : Int)]) (fun _ => rfl) rfl (fun _ => rfl) (fun _ _ => ?_)
                        refine z_aload_n Z dL_holds_139 4 rfl ?_
                        refine z_iload Z dL_holds_140 7 rfl ?_
                        refine z_callVw (rest := [zi ((cbF (s.1) (s.2.2.2.2.1) i ((s.2.2.1) i) : Nat) : Int)]) Z dL_holds_142 5 0 _ _ rfl rfl rfl (zc_X6_withHash l D ct (A.1 0) (A.1 1) (A.1 2) (A.1 3) (A.1 4) (A.1 5) (A.1 6) (A.1 7) (A.1 8) (A.1 9) (A.1 10) (A.1 11) (s.1) (s.2.1) (s.2.2.1) (s.2.2.2.1) (s.2.2.2.2.1) (s.2.2.2.2.2.1) (s.2.2.2.2.2.2.1) (s.2.2.2.2.2.2.2) (A.1 12) (A.1 13) (h.1) (h.2.1) (A.2.1) (A.2.2.2.1) (h.2.2) (A.2.2.1) (fl) (A.2.2.2.2) (qv) (tx) (len) (i) (k.1.1.1.1) (k.1.1.1.2.1) (k.1.1.1.2.2.1) (k.1.1.1.2.2.2.1) (k.1.1.2) (k.1.1.1.2.2.2.2) (k.2.1.1) (k.2.1.2) (hA.1) (hA.2) (k.2.2.1) (k.2.2.2.1) (k.2.2.2.2) (by first | assumption | omega)) rfl (cwV 1 Z.1.2.2.2.2 gL_holds_X6_withHash rfl rfl rfl (by decide +kernel) ⟨Nat.le_of_ble_eq_true rfl, Nat.le_of_ble_eq_true rfl⟩) rfl (Nat.le_of_ble_eq_true rfl) ⟨Nat.le_of_ble_eq_true rfl, Nat.le_of_ble_eq_true rfl⟩ (fun _ => OW ct A s h fl qv tx len) (fun _ => [zi ((cbF (s.1) (s.2.2.2.2.1) i 6 : Nat) : Int), zi ((cbF (s.1) (s.2.2.2.2.1) i ((s.2.2.1) i) : Nat) : Int)]) (fun _ => rfl) rfl (fun _ => rfl) (fun _ _ => ?_)
                        refine z_icmp_lt Z 191 dL_holds_145 (by decide) (by omega) (by omega) (fun h145 => ?_) (fun h145 => ?_)
                        · exfalso; first | contradiction | omega
                        · refine z_iload Z dL_holds_148 3 rfl ?_
                          refine z_bipush (v := 6) Z dL_holds_150 (by decide +kernel) ?_
                          refine z_icmp_eq Z 165 dL_holds_152 (by decide) (by omega) (by omega) (fun h152 => ?_) (fun h152 => ?_)
                          · have hc4 : cbF s.1 s.2.2.2.2.1 i (s.2.2.1 i) = cbF s.1 s.2.2.2.2.1 i 6 := by rw [show s.2.2.1 i = 6 from by omega]
                            refine z_iload Z dL_holds_165 3 rfl ?_
                            refine z_bipush (v := 6) Z dL_holds_167 (by decide +kernel) ?_
                            refine z_icmp_lt Z 187 dL_holds_169 (by decide) (by omega) (by omega) (fun h169 => ?_) (fun h169 => ?_)
                            · exfalso; first | contradiction | omega
                            · refine z_aload_n Z dL_holds_172 4 rfl ?_
                              refine z_iload Z dL_holds_173 7 rfl ?_
                              refine z_callVw (rest := []) Z dL_holds_175 5 0 _ _ rfl rfl rfl (zc_X6_leafSize l D ct (A.1 0) (A.1 1) (A.1 2) (A.1 3) (A.1 4) (A.1 5) (A.1 6) (A.1 7) (A.1 8) (A.1 9) (A.1 10) (A.1 11) (s.1) (s.2.1) (s.2.2.1) (s.2.2.2.1) (s.2.2.2.2.1) (s.2.2.2.2.2.1) (s.2.2.2.2.2.2.1) (s.2.2.2.2.2.2.2) (A.1 12) (A.1 13) (h.1) (h.2.1) (A.2.1) (A.2.2.2.1) (h.2.2) (A.2.2.1) (fl) (A.2.2.2.2) (qv) (tx) (len) (i) (k.1.1.1.1) (k.1.1.1.2.1) (k.1.1.1.2.2.1) (k.1.1.1.2.2.2.1) (k.1.1.2) (k.1.1.1.2.2.2.2) (k.2.1.1) (k.2.1.2) (hA.1) (hA.2) (k.2.2.1) (k.2.2.2.1) (k.2.2.2.2) (by first | assumption | omega)) rfl (cwV 1 Z.1.2.2.2.2 gL_holds_X6_leafSize rfl rfl rfl (by decide +kernel) ⟨Nat.le_of_ble_eq_true rfl, Nat.le_of_ble_eq_true rfl⟩) rfl (Nat.le_of_ble_eq_true rfl) ⟨Nat.le_of_ble_eq_true rfl, Nat.le_of_ble_eq_true rfl⟩ (fun _ => OW ct A s h fl qv tx len) (fun _ => [zi ((cbF (s.1) (s.2.2.2.2.1) i ((s.2.2.1) i) : Nat) : Int)]) (fun _ => rfl) rfl (fun _ => rfl) (fun _ _ => ?_)
                              refine z_aload_n Z dL_holds_178 4 rfl ?_
                              refine z_iload Z dL_holds_179 7 rfl ?_
                              refine z_callVw (rest := [zi ((cbF (s.1) (s.2.2.2.2.1) i ((s.2.2.1) i) : Nat) : Int)]) Z dL_holds_181 5 0 _ _ rfl rfl rfl (zc_X6_withHash l D ct (A.1 0) (A.1 1) (A.1 2) (A.1 3) (A.1 4) (A.1 5) (A.1 6) (A.1 7) (A.1 8) (A.1 9) (A.1 10) (A.1 11) (s.1) (s.2.1) (s.2.2.1) (s.2.2.2.1) (s.2.2.2.2.1) (s.2.2.2.2.2.1) (s.2.2.2.2.2.2.1) (s.2.2.2.2.2.2.2) (A.1 12) (A.1 13) (h.1) (h.2.1) (A.2.1) (A.2.2.2.1) (h.2.2) (A.2.2.1) (fl) (A.2.2.2.2) (qv) (tx) (len) (i) (k.1.1.1.1) (k.1.1.1.2.1) (k.1.1.1.2.2.1) (k.1.1.1.2.2.2.1) (k.1.1.2) (k.1.1.1.2.2.2.2) (k.2.1.1) (k.2.1.2) (hA.1) (hA.2) (k.2.2.1) (k.2.2.2.1) (k.2.2.2.2) (by first | assumption | omega)) rfl (cwV 1 Z.1.2.2.2.2 gL_holds_X6_withHash rfl rfl rfl (by decide +kernel) ⟨Nat.le_of_ble_eq_true rfl, Nat.le_of_ble_eq_true rfl⟩) rfl (Nat.le_of_ble_eq_true rfl) ⟨Nat.le_of_ble_eq_true rfl, Nat.le_of_ble_eq_true rfl⟩ (fun _ => OW ct A s h fl qv tx len) (fun _ => [zi ((cbF (s.1) (s.2.2.2.2.1) i 6 : Nat) : Int), zi ((cbF (s.1) (s.2.2.2.2.1) i ((s.2.2.1) i) : Nat) : Int)]) (fun _ => rfl) rfl (fun _ => rfl) (fun _ _ => ?_)
                              refine z_icmp_ne Z 191 dL_holds_184 (by decide) (by omega) (by omega) (fun h184 => ?_) (fun h184 => ?_)
                              · exfalso; first | contradiction | omega
                              · refine z_iconst (v := 1) Z dL_holds_187 rfl ?_
                                refine z_goto Z 192 dL_holds_188 (by decide) ?_
                                refine z_istore Z dL_holds_192 [(4, zi 1), (1, zi (((lcF s.2.2.1 i) + 1 : Nat) : Int)), (2, zi (((waF s i) + (cbF (s.1) (s.2.2.2.2.1) i 6) : Nat) : Int)), (7, zi ((wdF (s.2.2.1 i) : Nat) : Int)), (6, zi (((s.2.2.1) i : Nat) : Int)), (0, .ref (A.1 0)), (3, zi (-1)), (5, zi ((i : Nat) : Int))] (by decide) rfl ?_
                                refine z_iinc (v := ((i + 1 : Nat) : Int)) Z dL_holds_194 7 [(5, zi ((i + 1 : Nat) : Int)), (4, zi 1), (1, zi (((lcF s.2.2.1 i) + 1 : Nat) : Int)), (2, zi (((waF s i) + (cbF (s.1) (s.2.2.2.2.1) i 6) : Nat) : Int)), (7, zi ((wdF (s.2.2.1 i) : Nat) : Int)), (6, zi (((s.2.2.1) i : Nat) : Int)), (0, .ref (A.1 0)), (3, zi (-1))] rfl (by omega) (by decide) rfl ?_
                                refine z_goto Z 52 dL_holds_197 (by decide) ?_
                                refine z_lsub [6, 2, 3, 7, 1, 0] [(0, .ref (A.1 0)), (1, zi (((lcF s.2.2.1 i) + 1 : Nat) : Int)), (2, zi (((waF s i) + (cbF (s.1) (s.2.2.2.2.1) i 6) : Nat) : Int)), (3, zi (-1)), (4, zi 1), (5, zi ((i + 1 : Nat) : Int))] rfl ?_
                                exact ih0 (i + 1) _ _ _ (by omega) (by omega) (rfl) (by first | rfl | omega)  (by first | assumption | omega)
                          · have hc4 := cb_4 k.1 hi64 (by omega)
                            refine z_aload_n Z dL_holds_155 4 rfl ?_
                            refine z_iload Z dL_holds_156 7 rfl ?_
                            refine z_callVw (rest := []) Z dL_holds_158 5 0 _ _ rfl rfl rfl (zc_X6_leafSize l D ct (A.1 0) (A.1 1) (A.1 2) (A.1 3) (A.1 4) (A.1 5) (A.1 6) (A.1 7) (A.1 8) (A.1 9) (A.1 10) (A.1 11) (s.1) (s.2.1) (s.2.2.1) (s.2.2.2.1) (s.2.2.2.2.1) (s.2.2.2.2.2.1) (s.2.2.2.2.2.2.1) (s.2.2.2.2.2.2.2) (A.1 12) (A.1 13) (h.1) (h.2.1) (A.2.1) (A.2.2.2.1) (h.2.2) (A.2.2.1) (fl) (A.2.2.2.2) (qv) (tx) (len) (i) (k.1.1.1.1) (k.1.1.1.2.1) (k.1.1.1.2.2.1) (k.1.1.1.2.2.2.1) (k.1.1.2) (k.1.1.1.2.2.2.2) (k.2.1.1) (k.2.1.2) (hA.1) (hA.2) (k.2.2.1) (k.2.2.2.1) (k.2.2.2.2) (by first | assumption | omega)) rfl (cwV 1 Z.1.2.2.2.2 gL_holds_X6_leafSize rfl rfl rfl (by decide +kernel) ⟨Nat.le_of_ble_eq_true rfl, Nat.le_of_ble_eq_true rfl⟩) rfl (Nat.le_of_ble_eq_true rfl) ⟨Nat.le_of_ble_eq_true rfl, Nat.le_of_ble_eq_true rfl⟩ (fun _ => OW ct A s h fl qv tx len) (fun _ => [zi ((cbF (s.1) (s.2.2.2.2.1) i ((s.2.2.1) i) : Nat) : Int)]) (fun _ => rfl) rfl (fun _ => rfl) (fun _ _ => ?_)
                            refine z_iconst (v := 4) Z dL_holds_161 rfl ?_
                            refine z_icmp_gt Z 191 dL_holds_162 (by decide) (by omega) (by omega) (fun h162 => ?_) (fun h162 => ?_)
                            · exfalso; first | contradiction | omega
                            · refine z_iload Z dL_holds_165 3 rfl ?_
                              refine z_bipush (v := 6) Z dL_holds_167 (by decide +kernel) ?_
                              refine z_icmp_lt Z 187 dL_holds_169 (by decide) (by omega) (by omega) (fun h169 => ?_) (fun h169 => ?_)
                              · refine z_iconst (v := 1) Z dL_holds_187 rfl ?_
                                refine z_goto Z 192 dL_holds_188 (by decide) ?_
                                refine z_istore Z dL_holds_192 [(4, zi 1), (1, zi (((lcF s.2.2.1 i) + 1 : Nat) : Int)), (2, zi (((waF s i) + (cbF (s.1) (s.2.2.2.2.1) i 6) : Nat) : Int)), (7, zi ((wdF (s.2.2.1 i) : Nat) : Int)), (6, zi (((s.2.2.1) i : Nat) : Int)), (0, .ref (A.1 0)), (3, zi (-1)), (5, zi ((i : Nat) : Int))] (by decide) rfl ?_
                                refine z_iinc (v := ((i + 1 : Nat) : Int)) Z dL_holds_194 7 [(5, zi ((i + 1 : Nat) : Int)), (4, zi 1), (1, zi (((lcF s.2.2.1 i) + 1 : Nat) : Int)), (2, zi (((waF s i) + (cbF (s.1) (s.2.2.2.2.1) i 6) : Nat) : Int)), (7, zi ((wdF (s.2.2.1 i) : Nat) : Int)), (6, zi (((s.2.2.1) i : Nat) : Int)), (0, .ref (A.1 0)), (3, zi (-1))] rfl (by omega) (by decide) rfl ?_
                                refine z_goto Z 52 dL_holds_197 (by decide) ?_
                                refine z_lsub [6, 2, 3, 7, 1, 0] [(0, .ref (A.1 0)), (1, zi (((lcF s.2.2.1 i) + 1 : Nat) : Int)), (2, zi (((waF s i) + (cbF (s.1) (s.2.2.2.2.1) i 6) : Nat) : Int)), (3, zi (-1)), (4, zi 1), (5, zi ((i + 1 : Nat) : Int))] rfl ?_
                                exact ih0 (i + 1) _ _ _ (by omega) (by omega) (rfl) (by first | rfl | omega)  (by first | assumption | omega)
                              · exfalso; first | contradiction | omega
        exact LOOP52 (65 - 0 + 1) 0 _ _ _ (Nat.lt_succ_self _) (rfl) (rfl) (by first | rfl | omega)  (by first | assumption | omega)
