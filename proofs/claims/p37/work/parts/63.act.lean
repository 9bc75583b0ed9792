/-! the law's act -/
theorem zlk_L_act_71 : Cond.constant RL 71 (zI 64001) ∈ wsL_act := by decide +kernel
set_option maxHeartbeats 8000000 in
set_option maxRecDepth 100000 in
theorem zc_L_act (l : Launch) (D : va_G) (ct : zCT) (A : AdV) (s : StV) (h : HsV) (fl : Nat → Int) (qv : Nat → StV) (tx : Nat → Nat) (len : Nat) (x y : Int32) (hA : okA A) (k : okW s h fl qv tx len) (hf1 : fl 0 = 1) (hq : Gd (qv 0)) (hids : s.2.2.2.2.2.2.2 < 1000) : zMet l yL_act wsL_act ({ frames := 5, cells := 0, slots := 0, locals := 115 } : Room) D ct [.ref (A.1 0), .int x, .int y] (OW ct A s h fl qv tx len) (fun u : Nat => u ≤ 80) (fun u => some (zi (((actF (qv 0) s x y).2)))) (fun u => (OW ct A (actF (qv 0) s x y).1 (phH s h) fl qv (tyT tx (upF (srF y 2) 100)) u)) 0 0 := by
  refine zMet_i (cc := cL_act) (maxL := 6) (r := fun u => ((actF (qv 0) s x y).2)) (by decide) rfl (Nat.le_of_ble_eq_true rfl) ?_
  intro p e s9 m below meth c A9 Q Z hnm hR
  refine z_eqs _ [(0, .ref (A.1 0)), (1, .int x), (2, .int y)] _ rfl rfl rfl ?_
  have hc40 : s.2.2.2.2.1 ≤ 40 := k.1.1.1.1
  refine z_iload_n Z dL_act_0 2 rfl ?_
  refine z_iconst (v := 4) Z dL_act_1 rfl ?_
  refine z_callS0 (rest := []) Z dL_act_2 (zc_L_up l D ct (y) (4) (by omega) (by omega)) (va_cwS 2 Z.1.2.2.2.2 gL_act_L_up rfl rfl rfl (by decide +kernel) ⟨Nat.le_of_ble_eq_true rfl, Nat.le_of_ble_eq_true rfl⟩) rfl (Nat.le_of_ble_eq_true rfl) ⟨Nat.le_of_ble_eq_true rfl, Nat.le_of_ble_eq_true rfl⟩ [zi ((upF y 4 : Nat) : Int)] rfl rfl ?_
  have hu2 := upF_lt y (n := 4) (by omega)
  have hpr9 := k.1.1.2 (upF y 4) hu2
  refine z_istore_n Z dL_act_5 [(3, zi ((upF y 4 : Nat) : Int)), (0, .ref (A.1 0)), (1, .int x), (2, .int y)] (by decide) rfl ?_
  refine z_aload_n Z dL_act_6 1 rfl ?_
  refine z_iload_n Z dL_act_7 3 rfl ?_
  refine z_iconst (v := 2) Z dL_act_8 rfl ?_
  refine z_ishrX (n := 2) Z dL_act_9 ?_
  refine z_bipush (v := 100) Z dL_act_10 (by decide +kernel) ?_
  refine z_callS0 (rest := [.ref (A.1 0)]) Z dL_act_12 (zc_L_up l D ct (srF y 2) (100) (by omega) (by omega)) (va_cwS 2 Z.1.2.2.2.2 gL_act_L_up rfl rfl rfl (by decide +kernel) ⟨Nat.le_of_ble_eq_true rfl, Nat.le_of_ble_eq_true rfl⟩) rfl (Nat.le_of_ble_eq_true rfl) ⟨Nat.le_of_ble_eq_true rfl, Nat.le_of_ble_eq_true rfl⟩ [zi ((upF (srF y 2) 100 : Nat) : Int), .ref (A.1 0)] rfl rfl ?_
  have hu12 := upF_lt (srF y 2) (n := 100) (by omega)
  refine z_callSw (rest := []) Z dL_act_15 (zc_L_types l D ct A s h fl qv tx len (upF (srF y 2) 100) hA k (by first | assumption | omega)) rfl (va_cwS 2 Z.1.2.2.2.2 gL_act_L_types rfl rfl rfl (by decide +kernel) ⟨Nat.le_of_ble_eq_true rfl, Nat.le_of_ble_eq_true rfl⟩) rfl (Nat.le_of_ble_eq_true rfl) ⟨Nat.le_of_ble_eq_true rfl, Nat.le_of_ble_eq_true rfl⟩ (fun _ => OW ct A s h fl qv (tyT tx (upF (srF y 2) 100)) 2) (fun _ => [zi 3]) (fun _ => rfl) rfl (fun _ => rfl) (fun _ _ => ?_)
  have k1 : okW s h fl qv (tyT tx (upF (srF y 2) 100)) 2 := (k).tx (by decide) (tyT_lt (k).2.2.2.2 _)
  refine z_istore Z dL_act_18 [(4, zi 3), (3, zi ((upF y 4 : Nat) : Int)), (0, .ref (A.1 0)), (1, .int x), (2, .int y)] (by decide) rfl ?_
  refine z_aload_n Z dL_act_20 2 rfl ?_
  refine z_callVw (rest := []) Z dL_act_21 5 0 _ _ rfl rfl rfl (zc_X6_find l D ct (A.1 0) (A.1 1) (A.1 2) (A.1 3) (A.1 4) (A.1 5) (A.1 6) (A.1 7) (A.1 8) (A.1 9) (A.1 10) (A.1 11) (s.1) (s.2.1) (s.2.2.1) (s.2.2.2.1) (s.2.2.2.2.1) (s.2.2.2.2.2.1) (s.2.2.2.2.2.2.1) (s.2.2.2.2.2.2.2) (A.1 12) (A.1 13) (h.1) (h.2.1) (A.2.1) (A.2.2.2.1) (h.2.2) (A.2.2.1) (fl) (A.2.2.2.2) (qv) (tyT tx (upF (srF y 2) 100)) (2) (k1.1.1.1.1) (k1.1.1.1.2.1) (k1.1.1.1.2.2.1) (k1.1.1.1.2.2.2.1) (k1.1.1.2) (k1.1.1.1.2.2.2.2) (k1.2.1.1) (k1.2.1.2) (hA.1) (hA.2) (k1.2.2.1) (k1.2.2.2.1) (k1.2.2.2.2) (nb_ty1 _ _)) rfl (cwV 0 Z.1.2.2.2.2 gL_act_X6_find rfl rfl rfl (by decide +kernel) ⟨Nat.le_of_ble_eq_true rfl, Nat.le_of_ble_eq_true rfl⟩) rfl (Nat.le_of_ble_eq_true rfl) ⟨Nat.le_of_ble_eq_true rfl, Nat.le_of_ble_eq_true rfl⟩ (fun _ => OW ct A s h fl qv (tyT tx (upF (srF y 2) 100)) 2) (fun _ => [zi (if foF (nmP (s.2.1) (nbF (tyT tx (upF (srF y 2) 100)) 0 2)) (s.2.2.2.2.1) = -1 then -2 else (((s.1) (foF (nmP (s.2.1) (nbF (tyT tx (upF (srF y 2) 100)) 0 2)) (s.2.2.2.2.1)).toNat % 1000 : Nat) : Int))]) (fun _ => rfl) rfl (fun _ => rfl) (fun _ _ => ?_)
  have hfd9 := fdV_rg s (n2F (upF (srF y 2) 100))
  refine z_top (y := (fdV s (n2F (upF (srF y 2) 100)))) (by rw [nb_ty] <;> rfl) ?_
  refine z_istore Z dL_act_24 [(5, zi (fdV s (n2F (upF (srF y 2) 100)))), (4, zi 3), (3, zi ((upF y 4 : Nat) : Int)), (0, .ref (A.1 0)), (1, .int x), (2, .int y)] (by decide) rfl ?_
  rcases (show upF x 16 = 0 ∨ upF x 16 = 1 ∨ upF x 16 = 2 ∨ upF x 16 = 3 ∨ upF x 16 = 4 ∨ upF x 16 = 5 ∨ upF x 16 = 6 ∨ upF x 16 = 7 ∨ upF x 16 = 8 ∨ upF x 16 = 9 ∨ upF x 16 = 10 ∨ 10 < upF x 16 by omega) with hw9 | hw9 | hw9 | hw9 | hw9 | hw9 | hw9 | hw9 | hw9 | hw9 | hw9 | hw9
  · refine z_iload_n Z dL_act_26 4 rfl ?_
    refine z_bipush (v := 16) Z dL_act_27 (by decide +kernel) ?_
    refine z_callS0 (rest := []) Z dL_act_29 (zc_L_up l D ct (x) (16) (by omega) (by omega)) (va_cwS 2 Z.1.2.2.2.2 gL_act_L_up rfl rfl rfl (by decide +kernel) ⟨Nat.le_of_ble_eq_true rfl, Nat.le_of_ble_eq_true rfl⟩) rfl (Nat.le_of_ble_eq_true rfl) ⟨Nat.le_of_ble_eq_true rfl, Nat.le_of_ble_eq_true rfl⟩ [zi ((upF x 16 : Nat) : Int)] rfl rfl ?_
    have hu29 := upF_lt x (n := 16) (by omega)
    refine z_top (y := 0) (by omega) ?_
    refine z_tableIn Z 92 dL_act_32 (by omega) (by omega) (by omega) rfl (by decide) ?_
    refine z_aload_n Z dL_act_92 3 rfl ?_
    refine z_callVw (rest := []) Z dL_act_93 5 0 _ _ rfl rfl rfl (zc_X6_entries l D ct (A.1 0) (A.1 1) (A.1 2) (A.1 3) (A.1 4) (A.1 5) (A.1 6) (A.1 7) (A.1 8) (A.1 9) (A.1 10) (A.1 11) (s.1) (s.2.1) (s.2.2.1) (s.2.2.2.1) (s.2.2.2.2.1) (s.2.2.2.2.2.1) (s.2.2.2.2.2.2.1) (s.2.2.2.2.2.2.2) (A.1 12) (A.1 13) (h.1) (h.2.1) (A.2.1) (A.2.2.2.1) (h.2.2) (A.2.2.1) (fl) (A.2.2.2.2) (qv) (tyT tx (upF (srF y 2) 100)) (2) (k1.1.1.1.1) (k1.1.1.1.2.1) (k1.1.1.1.2.2.1) (k1.1.1.1.2.2.2.1) (k1.1.1.2) (k1.1.1.1.2.2.2.2) (k1.2.1.1) (k1.2.1.2) (hA.1) (hA.2) (k1.2.2.1) (k1.2.2.2.1) (k1.2.2.2.2)) rfl (cwV 0 Z.1.2.2.2.2 gL_act_X6_entries rfl rfl rfl (by decide +kernel) ⟨Nat.le_of_ble_eq_true rfl, Nat.le_of_ble_eq_true rfl⟩) rfl (Nat.le_of_ble_eq_true rfl) ⟨Nat.le_of_ble_eq_true rfl, Nat.le_of_ble_eq_true rfl⟩ (fun _ => OW ct A s h fl qv (tyT tx (upF (srF y 2) 100)) 2) (fun _ => [zi (((s.2.2.2.2.1) : Nat) : Int)]) (fun _ => rfl) rfl (fun _ => rfl) (fun _ _ => ?_)
    refine z_if_ne Z 107 dL_act_96 (by decide) (by omega) (fun h96 => ?_) (fun h96 => ?_)
    · have h96x : ¬ (s.2.2.2.2.1 = 0) := by omega
      refine z_aload_n Z dL_act_107 3 rfl ?_
      refine z_aload_n Z dL_act_108 3 rfl ?_
      refine z_iload_n Z dL_act_109 5 rfl ?_
      refine z_bipush (v := 9) Z dL_act_110 (by decide +kernel) ?_
      refine z_ishrX (n := 9) Z dL_act_112 ?_
      refine z_aload_n Z dL_act_113 3 rfl ?_
      refine z_callVw (rest := [.int (srF y 9), .ref (A.1 0), .ref (A.1 0)]) Z dL_act_114 5 0 _ _ rfl rfl rfl (zc_X6_entries l D ct (A.1 0) (A.1 1) (A.1 2) (A.1 3) (A.1 4) (A.1 5) (A.1 6) (A.1 7) (A.1 8) (A.1 9) (A.1 10) (A.1 11) (s.1) (s.2.1) (s.2.2.1) (s.2.2.2.1) (s.2.2.2.2.1) (s.2.2.2.2.2.1) (s.2.2.2.2.2.2.1) (s.2.2.2.2.2.2.2) (A.1 12) (A.1 13) (h.1) (h.2.1) (A.2.1) (A.2.2.2.1) (h.2.2) (A.2.2.1) (fl) (A.2.2.2.2) (qv) (tyT tx (upF (srF y 2) 100)) (2) (k1.1.1.1.1) (k1.1.1.1.2.1) (k1.1.1.1.2.2.1) (k1.1.1.1.2.2.2.1) (k1.1.1.2) (k1.1.1.1.2.2.2.2) (k1.2.1.1) (k1.2.1.2) (hA.1) (hA.2) (k1.2.2.1) (k1.2.2.2.1) (k1.2.2.2.2)) rfl (cwV 0 Z.1.2.2.2.2 gL_act_X6_entries rfl rfl rfl (by decide +kernel) ⟨Nat.le_of_ble_eq_true rfl, Nat.le_of_ble_eq_true rfl⟩) rfl (Nat.le_of_ble_eq_true rfl) ⟨Nat.le_of_ble_eq_true rfl, Nat.le_of_ble_eq_true rfl⟩ (fun _ => OW ct A s h fl qv (tyT tx (upF (srF y 2) 100)) 2) (fun _ => [zi (((s.2.2.2.2.1) : Nat) : Int), .int (srF y 9), .ref (A.1 0), .ref (A.1 0)]) (fun _ => rfl) rfl (fun _ => rfl) (fun _ _ => ?_)
      refine z_callS0 (rest := [.ref (A.1 0), .ref (A.1 0)]) Z dL_act_117 (zc_L_up l D ct (srF y 9) (s.2.2.2.2.1) (by omega) (by omega)) (va_cwS 2 Z.1.2.2.2.2 gL_act_L_up rfl rfl rfl (by decide +kernel) ⟨Nat.le_of_ble_eq_true rfl, Nat.le_of_ble_eq_true rfl⟩) rfl (Nat.le_of_ble_eq_true rfl) ⟨Nat.le_of_ble_eq_true rfl, Nat.le_of_ble_eq_true rfl⟩ [zi ((upF (srF y 9) (s.2.2.2.2.1) : Nat) : Int), .ref (A.1 0), .ref (A.1 0)] rfl rfl ?_
      have hu117 := upF_lt (srF y 9) (n := s.2.2.2.2.1) (by omega)
      have hu9 := upF_lt (srF y 9) (n := s.2.2.2.2.1) (by omega)
      refine z_callVw (rest := [.ref (A.1 0)]) Z dL_act_120 5 0 _ _ rfl rfl rfl (zc_X6_idAt l D ct (A.1 0) (A.1 1) (A.1 2) (A.1 3) (A.1 4) (A.1 5) (A.1 6) (A.1 7) (A.1 8) (A.1 9) (A.1 10) (A.1 11) (s.1) (s.2.1) (s.2.2.1) (s.2.2.2.1) (s.2.2.2.2.1) (s.2.2.2.2.2.1) (s.2.2.2.2.2.2.1) (s.2.2.2.2.2.2.2) (A.1 12) (A.1 13) (h.1) (h.2.1) (A.2.1) (A.2.2.2.1) (h.2.2) (A.2.2.1) (fl) (A.2.2.2.2) (qv) (tyT tx (upF (srF y 2) 100)) (2) (upF (srF y 9) (s.2.2.2.2.1)) (k1.1.1.1.1) (k1.1.1.1.2.1) (k1.1.1.1.2.2.1) (k1.1.1.1.2.2.2.1) (k1.1.1.2) (k1.1.1.1.2.2.2.2) (k1.2.1.1) (k1.2.1.2) (hA.1) (hA.2) (k1.2.2.1) (k1.2.2.2.1) (k1.2.2.2.2) (by first | assumption | omega)) rfl (cwV 1 Z.1.2.2.2.2 gL_act_X6_idAt rfl rfl rfl (by decide +kernel) ⟨Nat.le_of_ble_eq_true rfl, Nat.le_of_ble_eq_true rfl⟩) rfl (Nat.le_of_ble_eq_true rfl) ⟨Nat.le_of_ble_eq_true rfl, Nat.le_of_ble_eq_true rfl⟩ (fun _ => OW ct A s h fl qv (tyT tx (upF (srF y 2) 100)) 2) (fun _ => [zi (if (upF (srF y 9) (s.2.2.2.2.1)) < (s.2.2.2.2.1) then (((s.1) (upF (srF y 9) (s.2.2.2.2.1)) % 1000 : Nat) : Int) else -2), .ref (A.1 0)]) (fun _ => rfl) rfl (fun _ => rfl) (fun _ _ => ?_)
      have hid9 := fo_id k.1 (k := (upF (srF y 9) s.2.2.2.2.1)) (by omega)
      refine z_top (y := ((s.1 (upF (srF y 9) s.2.2.2.2.1) % 1000 : Nat) : Int)) (by rw [if_pos (by omega)]) ?_
      refine z_callVw (rest := []) Z dL_act_123 5 0 _ _ rfl rfl rfl (zc_X6_remove l D ct (A.1 0) (A.1 1) (A.1 2) (A.1 3) (A.1 4) (A.1 5) (A.1 6) (A.1 7) (A.1 8) (A.1 9) (A.1 10) (A.1 11) (s.1) (s.2.1) (s.2.2.1) (s.2.2.2.1) (s.2.2.2.2.1) (s.2.2.2.2.2.1) (s.2.2.2.2.2.2.1) (s.2.2.2.2.2.2.2) (A.1 12) (A.1 13) (h.1) (h.2.1) (A.2.1) (A.2.2.2.1) (h.2.2) (A.2.2.1) (fl) (A.2.2.2.2) (qv) (tyT tx (upF (srF y 2) 100)) (2) (((s.1 (upF (srF y 9) s.2.2.2.2.1) % 1000 : Nat) : Int)) (k1.1.1.1.1) (k1.1.1.1.2.1) (k1.1.1.1.2.2.1) (k1.1.1.1.2.2.2.1) (k1.1.1.2) (k1.1.1.1.2.2.2.2) (k1.2.1.1) (k1.2.1.2) (hA.1) (hA.2) (k1.2.2.1) (k1.2.2.2.1) (k1.2.2.2.2) (by first | assumption | omega) (by rw [hid9]; omega)) rfl (cwV 1 Z.1.2.2.2.2 gL_act_X6_remove rfl rfl rfl (by decide +kernel) ⟨Nat.le_of_ble_eq_true rfl, Nat.le_of_ble_eq_true rfl⟩) rfl (Nat.le_of_ble_eq_true rfl) ⟨Nat.le_of_ble_eq_true rfl, Nat.le_of_ble_eq_true rfl⟩ (fun _ => OW ct A (rmS (foF (idP s.1 ((s.1 (upF (srF y 9) s.2.2.2.2.1) % 1000 : Nat) : Int)) s.2.2.2.2.1).toNat s) (phH s h) fl qv (tyT tx (upF (srF y 2) 100)) 2) (fun _ => [zi (((s.2.2.2.2.1) - 1 : Nat) : Int)]) (fun _ => rfl) rfl (fun _ => rfl) (fun _ _ => ?_)
      refine z_eqs (OW ct A (rmS (upF (srF y 9) s.2.2.2.2.1) s) (phH s h) fl qv (tyT tx (upF (srF y 2) 100)) 2) _ _ (by rw [hid9] <;> rfl) rfl rfl ?_
      have k2 : okW (rmS (upF (srF y 9) s.2.2.2.2.1) s) (phH s h) fl qv (tyT tx (upF (srF y 2) 100)) 2 := (k1).st (Gd_rm (k1).1 (by omega)).1 (okH_ph _ (k1).2.1)
      have ha9 : actF (qv 0) s x y = rvV (upF (srF y 9) s.2.2.2.2.1) s := by unfold actF; rw [actN_0 (.inl hw9), if_neg h96x]
      refine z_eqs (OW ct A ((actF (qv 0) s x y).1) (phH s h) fl qv (tyT tx (upF (srF y 2) 100)) 2) _ [zi ((actF (qv 0) s x y).2)] (by rw [ha9] <;> rfl) rfl (by rw [ha9] <;> rfl) ?_
      exact hR _ _ 2 (by decide) dL_act_126
    · have h96x : s.2.2.2.2.1 = 0 := by omega
      refine z_aload_n Z dL_act_99 3 rfl ?_
      refine z_iload_n Z dL_act_100 2 rfl ?_
      refine z_callVw (rest := []) Z dL_act_101 5 0 _ _ rfl rfl rfl (zc_X6_open l D ct (A.1 0) (A.1 1) (A.1 2) (A.1 3) (A.1 4) (A.1 5) (A.1 6) (A.1 7) (A.1 8) (A.1 9) (A.1 10) (A.1 11) (s.1) (s.2.1) (s.2.2.1) (s.2.2.2.1) (s.2.2.2.2.1) (s.2.2.2.2.2.1) (s.2.2.2.2.2.2.1) (s.2.2.2.2.2.2.2) (A.1 12) (A.1 13) (h.1) (h.2.1) (A.2.1) (A.2.2.2.1) (h.2.2) (A.2.2.1) (fl) (A.2.2.2.2) (qv) (tyT tx (upF (srF y 2) 100)) (2) (upF y 4) (k1.1.1.1.1) (k1.1.1.1.2.1) (k1.1.1.1.2.2.1) (k1.1.1.1.2.2.2.1) (k1.1.1.2) (k1.1.1.1.2.2.2.2) (k1.2.1.1) (k1.2.1.2) (hA.1) (hA.2) (k1.2.2.1) (k1.2.2.2.1) (k1.2.2.2.2) (hu2)) rfl (cwV 1 Z.1.2.2.2.2 gL_act_X6_open rfl rfl rfl (by decide +kernel) ⟨Nat.le_of_ble_eq_true rfl, Nat.le_of_ble_eq_true rfl⟩) rfl (Nat.le_of_ble_eq_true rfl) ⟨Nat.le_of_ble_eq_true rfl, Nat.le_of_ble_eq_true rfl⟩ (fun _ => OW ct A (pzS s (zU s.2.2.2.1 (upF y 4) (-1))) (phH s h) fl qv (tyT tx (upF (srF y 2) 100)) 2) (fun _ => [zi ((orF (zU (s.2.2.2.1) (upF y 4) (-1)) 4 : Nat) : Int)]) (fun _ => rfl) rfl (fun _ => rfl) (fun _ _ => ?_)
      have k3 : okW (pzS s (zU s.2.2.2.1 (upF y 4) (-1))) (phH s h) fl qv (tyT tx (upF (srF y 2) 100)) 2 := (k1).st (Gd_pos (k1).1 (zU_p (k1).1.1.2 (by decide))) (okH_ph _ (k1).2.1)
      refine z_goto Z 126 dL_act_104 (by decide) ?_
      have ha9 : actF (qv 0) s x y = opV (upF y 4) s := by unfold actF; rw [actN_0 (.inl hw9), if_pos h96x]
      refine z_eqs (OW ct A ((actF (qv 0) s x y).1) (phH s h) fl qv (tyT tx (upF (srF y 2) 100)) 2) _ [zi ((actF (qv 0) s x y).2)] (by rw [ha9] <;> rfl) rfl (by rw [ha9] <;> rfl) ?_
      exact hR _ _ 2 (by decide) dL_act_126
  · refine z_iload_n Z dL_act_26 4 rfl ?_
    refine z_bipush (v := 16) Z dL_act_27 (by decide +kernel) ?_
    refine z_callS0 (rest := []) Z dL_act_29 (zc_L_up l D ct (x) (16) (by omega) (by omega)) (va_cwS 2 Z.1.2.2.2.2 gL_act_L_up rfl rfl rfl (by decide +kernel) ⟨Nat.le_of_ble_eq_true rfl, Nat.le_of_ble_eq_true rfl⟩) rfl (Nat.le_of_ble_eq_true rfl) ⟨Nat.le_of_ble_eq_true rfl, Nat.le_of_ble_eq_true rfl⟩ [zi ((upF x 16 : Nat) : Int)] rfl rfl ?_
    have hu29 := upF_lt x (n := 16) (by omega)
    refine z_top (y := 1) (by omega) ?_
    refine z_tableIn Z 92 dL_act_32 (by omega) (by omega) (by omega) rfl (by decide) ?_
    refine z_aload_n Z dL_act_92 3 rfl ?_
    refine z_callVw (rest := []) Z dL_act_93 5 0 _ _ rfl rfl rfl (zc_X6_entries l D ct (A.1 0) (A.1 1) (A.1 2) (A.1 3) (A.1 4) (A.1 5) (A.1 6) (A.1 7) (A.1 8) (A.1 9) (A.1 10) (A.1 11) (s.1) (s.2.1) (s.2.2.1) (s.2.2.2.1) (s.2.2.2.2.1) (s.2.2.2.2.2.1) (s.2.2.2.2.2.2.1) (s.2.2.2.2.2.2.2) (A.1 12) (A.1 13) (h.1) (h.2.1) (A.2.1) (A.2.2.2.1) (h.2.2) (A.2.2.1) (fl) (A.2.2.2.2) (qv) (tyT tx (upF (srF y 2) 100)) (2) (k1.1.1.1.1) (k1.1.1.1.2.1) (k1.1.1.1.2.2.1) (k1.1.1.1.2.2.2.1) (k1.1.1.2) (k1.1.1.1.2.2.2.2) (k1.2.1.1) (k1.2.1.2) (hA.1) (hA.2) (k1.2.2.1) (k1.2.2.2.1) (k1.2.2.2.2)) rfl (cwV 0 Z.1.2.2.2.2 gL_act_X6_entries rfl rfl rfl (by decide +kernel) ⟨Nat.le_of_ble_eq_true rfl, Nat.le_of_ble_eq_true rfl⟩) rfl (Nat.le_of_ble_eq_true rfl) ⟨Nat.le_of_ble_eq_true rfl, Nat.le_of_ble_eq_true rfl⟩ (fun _ => OW ct A s h fl qv (tyT tx (upF (srF y 2) 100)) 2) (fun _ => [zi (((s.2.2.2.2.1) : Nat) : Int)]) (fun _ => rfl) rfl (fun _ => rfl) (fun _ _ => ?_)
    refine z_if_ne Z 107 dL_act_96 (by decide) (by omega) (fun h96 => ?_) (fun h96 => ?_)
    · have h96x : ¬ (s.2.2.2.2.1 = 0) := by omega
      refine z_aload_n Z dL_act_107 3 rfl ?_
      refine z_aload_n Z dL_act_108 3 rfl ?_
      refine z_iload_n Z dL_act_109 5 rfl ?_
      refine z_bipush (v := 9) Z dL_act_110 (by decide +kernel) ?_
      refine z_ishrX (n := 9) Z dL_act_112 ?_
      refine z_aload_n Z dL_act_113 3 rfl ?_
      refine z_callVw (rest := [.int (srF y 9), .ref (A.1 0), .ref (A.1 0)]) Z dL_act_114 5 0 _ _ rfl rfl rfl (zc_X6_entries l D ct (A.1 0) (A.1 1) (A.1 2) (A.1 3) (A.1 4) (A.1 5) (A.1 6) (A.1 7) (A.1 8) (A.1 9) (A.1 10) (A.1 11) (s.1) (s.2.1) (s.2.2.1) (s.2.2.2.1) (s.2.2.2.2.1) (s.2.2.2.2.2.1) (s.2.2.2.2.2.2.1) (s.2.2.2.2.2.2.2) (A.1 12) (A.1 13) (h.1) (h.2.1) (A.2.1) (A.2.2.2.1) (h.2.2) (A.2.2.1) (fl) (A.2.2.2.2) (qv) (tyT tx (upF (srF y 2) 100)) (2) (k1.1.1.1.1) (k1.1.1.1.2.1) (k1.1.1.1.2.2.1) (k1.1.1.1.2.2.2.1) (k1.1.1.2) (k1.1.1.1.2.2.2.2) (k1.2.1.1) (k1.2.1.2) (hA.1) (hA.2) (k1.2.2.1) (k1.2.2.2.1) (k1.2.2.2.2)) rfl (cwV 0 Z.1.2.2.2.2 gL_act_X6_entries rfl rfl rfl (by decide +kernel) ⟨Nat.le_of_ble_eq_true rfl, Nat.le_of_ble_eq_true rfl⟩) rfl (Nat.le_of_ble_eq_true rfl) ⟨Nat.le_of_ble_eq_true rfl, Nat.le_of_ble_eq_true rfl⟩ (fun _ => OW ct A s h fl qv (tyT tx (upF (srF y 2) 100)) 2) (fun _ => [zi (((s.2.2.2.2.1) : Nat) : Int), .int (srF y 9), .ref (A.1 0), .ref (A.1 0)]) (fun _ => rfl) rfl (fun _ => rfl) (fun _ _ => ?_)
      refine z_callS0 (rest := [.ref (A.1 0), .ref (A.1 0)]) Z dL_act_117 (zc_L_up l D ct (srF y 9) (s.2.2.2.2.1) (by omega) (by omega)) (va_cwS 2 Z.1.2.2.2.2 gL_act_L_up rfl rfl rfl (by decide +kernel) ⟨Nat.le_of_ble_eq_true rfl, Nat.le_of_ble_eq_true rfl⟩) rfl (Nat.le_of_ble_eq_true rfl) ⟨Nat.le_of_ble_eq_true rfl, Nat.le_of_ble_eq_true rfl⟩ [zi ((upF (srF y 9) (s.2.2.2.2.1) : Nat) : Int), .ref (A.1 0), .ref (A.1 0)] rfl rfl ?_
      have hu117 := upF_lt (srF y 9) (n := s.2.2.2.2.1) (by omega)
      have hu9 := upF_lt (srF y 9) (n := s.2.2.2.2.1) (by omega)
      refine z_callVw (rest := [.ref (A.1 0)]) Z dL_act_120 5 0 _ _ rfl rfl rfl (zc_X6_idAt l D ct (A.1 0) (A.1 1) (A.1 2) (A.1 3) (A.1 4) (A.1 5) (A.1 6) (A.1 7) (A.1 8) (A.1 9) (A.1 10) (A.1 11) (s.1) (s.2.1) (s.2.2.1) (s.2.2.2.1) (s.2.2.2.2.1) (s.2.2.2.2.2.1) (s.2.2.2.2.2.2.1) (s.2.2.2.2.2.2.2) (A.1 12) (A.1 13) (h.1) (h.2.1) (A.2.1) (A.2.2.2.1) (h.2.2) (A.2.2.1) (fl) (A.2.2.2.2) (qv) (tyT tx (upF (srF y 2) 100)) (2) (upF (srF y 9) (s.2.2.2.2.1)) (k1.1.1.1.1) (k1.1.1.1.2.1) (k1.1.1.1.2.2.1) (k1.1.1.1.2.2.2.1) (k1.1.1.2) (k1.1.1.1.2.2.2.2) (k1.2.1.1) (k1.2.1.2) (hA.1) (hA.2) (k1.2.2.1) (k1.2.2.2.1) (k1.2.2.2.2) (by first | assumption | omega)) rfl (cwV 1 Z.1.2.2.2.2 gL_act_X6_idAt rfl rfl rfl (by decide +kernel) ⟨Nat.le_of_ble_eq_true rfl, Nat.le_of_ble_eq_true rfl⟩) rfl (Nat.le_of_ble_eq_true rfl) ⟨Nat.le_of_ble_eq_true rfl, Nat.le_of_ble_eq_true rfl⟩ (fun _ => OW ct A s h fl qv (tyT tx (upF (srF y 2) 100)) 2) (fun _ => [zi (if (upF (srF y 9) (s.2.2.2.2.1)) < (s.2.2.2.2.1) then (((s.1) (upF (srF y 9) (s.2.2.2.2.1)) % 1000 : Nat) : Int) else -2), .ref (A.1 0)]) (fun _ => rfl) rfl (fun _ => rfl) (fun _ _ => ?_)
      have hid9 := fo_id k.1 (k := (upF (srF y 9) s.2.2.2.2.1)) (by omega)
      refine z_top (y := ((s.1 (upF (srF y 9) s.2.2.2.2.1) % 1000 : Nat) : Int)) (by rw [if_pos (by omega)]) ?_
      refine z_callVw (rest := []) Z dL_act_123 5 0 _ _ rfl rfl rfl (zc_X6_remove l D ct (A.1 0) (A.1 1) (A.1 2) (A.1 3) (A.1 4) (A.1 5) (A.1 6) (A.1 7) (A.1 8) (A.1 9) (A.1 10) (A.1 11) (s.1) (s.2.1) (s.2.2.1) (s.2.2.2.1) (s.2.2.2.2.1) (s.2.2.2.2.2.1) (s.2.2.2.2.2.2.1) (s.2.2.2.2.2.2.2) (A.1 12) (A.1 13) (h.1) (h.2.1) (A.2.1) (A.2.2.2.1) (h.2.2) (A.2.2.1) (fl) (A.2.2.2.2) (qv) (tyT tx (upF (srF y 2) 100)) (2) (((s.1 (upF (srF y 9) s.2.2.2.2.1) % 1000 : Nat) : Int)) (k1.1.1.1.1) (k1.1.1.1.2.1) (k1.1.1.1.2.2.1) (k1.1.1.1.2.2.2.1) (k1.1.1.2) (k1.1.1.1.2.2.2.2) (k1.2.1.1) (k1.2.1.2) (hA.1) (hA.2) (k1.2.2.1) (k1.2.2.2.1) (k1.2.2.2.2) (by first | assumption | omega) (by rw [hid9]; omega)) rfl (cwV 1 Z.1.2.2.2.2 gL_act_X6_remove rfl rfl rfl (by decide +kernel) ⟨Nat.le_of_ble_eq_true rfl, Nat.le_of_ble_eq_true rfl⟩) rfl (Nat.le_of_ble_eq_true rfl) ⟨Nat.le_of_ble_eq_true rfl, Nat.le_of_ble_eq_true rfl⟩ (fun _ => OW ct A (rmS (foF (idP s.1 ((s.1 (upF (srF y 9) s.2.2.2.2.1) % 1000 : Nat) : Int)) s.2.2.2.2.1).toNat s) (phH s h) fl qv (tyT tx (upF (srF y 2) 100)) 2) (fun _ => [zi (((s.2.2.2.2.1) - 1 : Nat) : Int)]) (fun _ => rfl) rfl (fun _ => rfl) (fun _ _ => ?_)
      refine z_eqs (OW ct A (rmS (upF (srF y 9) s.2.2.2.2.1) s) (phH s h) fl qv (tyT tx (upF (srF y 2) 100)) 2) _ _ (by rw [hid9] <;> rfl) rfl rfl ?_
      have k4 : okW (rmS (upF (srF y 9) s.2.2.2.2.1) s) (phH s h) fl qv (tyT tx (upF (srF y 2) 100)) 2 := (k1).st (Gd_rm (k1).1 (by omega)).1 (okH_ph _ (k1).2.1)
      have ha9 : actF (qv 0) s x y = rvV (upF (srF y 9) s.2.2.2.2.1) s := by unfold actF; rw [actN_0 (.inr hw9), if_neg h96x]
      refine z_eqs (OW ct A ((actF (qv 0) s x y).1) (phH s h) fl qv (tyT tx (upF (srF y 2) 100)) 2) _ [zi ((actF (qv 0) s x y).2)] (by rw [ha9] <;> rfl) rfl (by rw [ha9] <;> rfl) ?_
      exact hR _ _ 2 (by decide) dL_act_126
    · have h96x : s.2.2.2.2.1 = 0 := by omega
      refine z_aload_n Z dL_act_99 3 rfl ?_
      refine z_iload_n Z dL_act_100 2 rfl ?_
      refine z_callVw (rest := []) Z dL_act_101 5 0 _ _ rfl rfl rfl (zc_X6_open l D ct (A.1 0) (A.1 1) (A.1 2) (A.1 3) (A.1 4) (A.1 5) (A.1 6) (A.1 7) (A.1 8) (A.1 9) (A.1 10) (A.1 11) (s.1) (s.2.1) (s.2.2.1) (s.2.2.2.1) (s.2.2.2.2.1) (s.2.2.2.2.2.1) (s.2.2.2.2.2.2.1) (s.2.2.2.2.2.2.2) (A.1 12) (A.1 13) (h.1) (h.2.1) (A.2.1) (A.2.2.2.1) (h.2.2) (A.2.2.1) (fl) (A.2.2.2.2) (qv) (tyT tx (upF (srF y 2) 100)) (2) (upF y 4) (k1.1.1.1.1) (k1.1.1.1.2.1) (k1.1.1.1.2.2.1) (k1.1.1.1.2.2.2.1) (k1.1.1.2) (k1.1.1.1.2.2.2.2) (k1.2.1.1) (k1.2.1.2) (hA.1) (hA.2) (k1.2.2.1) (k1.2.2.2.1) (k1.2.2.2.2) (hu2)) rfl (cwV 1 Z.1.2.2.2.2 gL_act_X6_open rfl rfl rfl (by decide +kernel) ⟨Nat.le_of_ble_eq_true rfl, Nat.le_of_ble_eq_true rfl⟩) rfl (Nat.le_of_ble_eq_true rfl) ⟨Nat.le_of_ble_eq_true rfl, Nat.le_of_ble_eq_true rfl⟩ (fun _ => OW ct A (pzS s (zU s.2.2.2.1 (upF y 4) (-1))) (phH s h) fl qv (tyT tx (upF (srF y 2) 100)) 2) (fun _ => [zi ((orF (zU (s.2.2.2.1) (upF y 4) (-1)) 4 : Nat) : Int)]) (fun _ => rfl) rfl (fun _ => rfl) (fun _ _ => ?_)
      have k5 : okW (pzS s (zU s.2.2.2.1 (upF y 4) (-1))) (phH s h) fl qv (tyT tx (upF (srF y 2) 100)) 2 := (k1).st (Gd_pos (k1).1 (zU_p (k1).1.1.2 (by decide))) (okH_ph _ (k1).2.1)
      refine z_goto Z 126 dL_act_104 (by decide) ?_
      have ha9 : actF (qv 0) s x y = opV (upF y 4) s := by unfold actF; rw [actN_0 (.inr hw9), if_pos h96x]
      refine z_eqs (OW ct A ((actF (qv 0) s x y).1) (phH s h) fl qv (tyT tx (upF (srF y 2) 100)) 2) _ [zi ((actF (qv 0) s x y).2)] (by rw [ha9] <;> rfl) rfl (by rw [ha9] <;> rfl) ?_
      exact hR _ _ 2 (by decide) dL_act_126
  · refine z_iload_n Z dL_act_26 4 rfl ?_
    refine z_bipush (v := 16) Z dL_act_27 (by decide +kernel) ?_
    refine z_callS0 (rest := []) Z dL_act_29 (zc_L_up l D ct (x) (16) (by omega) (by omega)) (va_cwS 2 Z.1.2.2.2.2 gL_act_L_up rfl rfl rfl (by decide +kernel) ⟨Nat.le_of_ble_eq_true rfl, Nat.le_of_ble_eq_true rfl⟩) rfl (Nat.le_of_ble_eq_true rfl) ⟨Nat.le_of_ble_eq_true rfl, Nat.le_of_ble_eq_true rfl⟩ [zi ((upF x 16 : Nat) : Int)] rfl rfl ?_
    have hu29 := upF_lt x (n := 16) (by omega)
    refine z_top (y := 2) (by omega) ?_
    refine z_tableIn Z 127 dL_act_32 (by omega) (by omega) (by omega) rfl (by decide) ?_
    refine z_aload_n Z dL_act_127 3 rfl ?_
    refine z_callVw (rest := []) Z dL_act_128 5 0 _ _ rfl rfl rfl (zc_X6_entries l D ct (A.1 0) (A.1 1) (A.1 2) (A.1 3) (A.1 4) (A.1 5) (A.1 6) (A.1 7) (A.1 8) (A.1 9) (A.1 10) (A.1 11) (s.1) (s.2.1) (s.2.2.1) (s.2.2.2.1) (s.2.2.2.2.1) (s.2.2.2.2.2.1) (s.2.2.2.2.2.2.1) (s.2.2.2.2.2.2.2) (A.1 12) (A.1 13) (h.1) (h.2.1) (A.2.1) (A.2.2.2.1) (h.2.2) (A.2.2.1) (fl) (A.2.2.2.2) (qv) (tyT tx (upF (srF y 2) 100)) (2) (k1.1.1.1.1) (k1.1.1.1.2.1) (k1.1.1.1.2.2.1) (k1.1.1.1.2.2.2.1) (k1.1.1.2) (k1.1.1.1.2.2.2.2) (k1.2.1.1) (k1.2.1.2) (hA.1) (hA.2) (k1.2.2.1) (k1.2.2.2.1) (k1.2.2.2.2)) rfl (cwV 0 Z.1.2.2.2.2 gL_act_X6_entries rfl rfl rfl (by decide +kernel) ⟨Nat.le_of_ble_eq_true rfl, Nat.le_of_ble_eq_true rfl⟩) rfl (Nat.le_of_ble_eq_true rfl) ⟨Nat.le_of_ble_eq_true rfl, Nat.le_of_ble_eq_true rfl⟩ (fun _ => OW ct A s h fl qv (tyT tx (upF (srF y 2) 100)) 2) (fun _ => [zi (((s.2.2.2.2.1) : Nat) : Int)]) (fun _ => rfl) rfl (fun _ => rfl) (fun _ _ => ?_)
    refine z_if_eq Z 139 dL_act_131 (by decide) (by omega) (fun h131 => ?_) (fun h131 => ?_)
    · have hor9 : s.2.2.2.2.1 = 0 ∨ (foF (nmP s.2.1 (n2F (upF (srF y 2) 100))) s.2.2.2.2.1) ≠ -1 := .inl (by omega)
      refine z_aload_n Z dL_act_139 3 rfl ?_
      refine z_iload_n Z dL_act_140 2 rfl ?_
      refine z_callVw (rest := []) Z dL_act_141 5 0 _ _ rfl rfl rfl (zc_X6_open l D ct (A.1 0) (A.1 1) (A.1 2) (A.1 3) (A.1 4) (A.1 5) (A.1 6) (A.1 7) (A.1 8) (A.1 9) (A.1 10) (A.1 11) (s.1) (s.2.1) (s.2.2.1) (s.2.2.2.1) (s.2.2.2.2.1) (s.2.2.2.2.2.1) (s.2.2.2.2.2.2.1) (s.2.2.2.2.2.2.2) (A.1 12) (A.1 13) (h.1) (h.2.1) (A.2.1) (A.2.2.2.1) (h.2.2) (A.2.2.1) (fl) (A.2.2.2.2) (qv) (tyT tx (upF (srF y 2) 100)) (2) (upF y 4) (k1.1.1.1.1) (k1.1.1.1.2.1) (k1.1.1.1.2.2.1) (k1.1.1.1.2.2.2.1) (k1.1.1.2) (k1.1.1.1.2.2.2.2) (k1.2.1.1) (k1.2.1.2) (hA.1) (hA.2) (k1.2.2.1) (k1.2.2.2.1) (k1.2.2.2.2) (hu2)) rfl (cwV 1 Z.1.2.2.2.2 gL_act_X6_open rfl rfl rfl (by decide +kernel) ⟨Nat.le_of_ble_eq_true rfl, Nat.le_of_ble_eq_true rfl⟩) rfl (Nat.le_of_ble_eq_true rfl) ⟨Nat.le_of_ble_eq_true rfl, Nat.le_of_ble_eq_true rfl⟩ (fun _ => OW ct A (pzS s (zU s.2.2.2.1 (upF y 4) (-1))) (phH s h) fl qv (tyT tx (upF (srF y 2) 100)) 2) (fun _ => [zi ((orF (zU (s.2.2.2.1) (upF y 4) (-1)) 4 : Nat) : Int)]) (fun _ => rfl) rfl (fun _ => rfl) (fun _ _ => ?_)
      have k6 : okW (pzS s (zU s.2.2.2.1 (upF y 4) (-1))) (phH s h) fl qv (tyT tx (upF (srF y 2) 100)) 2 := (k1).st (Gd_pos (k1).1 (zU_p (k1).1.1.2 (by decide))) (okH_ph _ (k1).2.1)
      refine z_goto Z 166 dL_act_144 (by decide) ?_
      have ha9 : actF (qv 0) s x y = opV (upF y 4) s := by unfold actF; rw [actN_2 hw9, if_pos hor9]
      refine z_eqs (OW ct A ((actF (qv 0) s x y).1) (phH s h) fl qv (tyT tx (upF (srF y 2) 100)) 2) _ [zi ((actF (qv 0) s x y).2)] (by rw [ha9] <;> rfl) rfl (by rw [ha9] <;> rfl) ?_
      exact hR _ _ 2 (by decide) dL_act_166
    · refine z_iload Z dL_act_134 0 rfl ?_
      refine z_if_lt Z 147 dL_act_136 (by decide) (by omega) (fun h136 => ?_) (fun h136 => ?_)
      · have hfo9 : (foF (nmP s.2.1 (n2F (upF (srF y 2) 100))) s.2.2.2.2.1) = -1 := fdV_lt (by omega)
        refine z_aload_n Z dL_act_147 3 rfl ?_
        refine z_aload_n Z dL_act_148 3 rfl ?_
        refine z_iload_n Z dL_act_149 5 rfl ?_
        refine z_bipush (v := 9) Z dL_act_150 (by decide +kernel) ?_
        refine z_ishrX (n := 9) Z dL_act_152 ?_
        refine z_aload_n Z dL_act_153 3 rfl ?_
        refine z_callVw (rest := [.int (srF y 9), .ref (A.1 0), .ref (A.1 0)]) Z dL_act_154 5 0 _ _ rfl rfl rfl (zc_X6_entries l D ct (A.1 0) (A.1 1) (A.1 2) (A.1 3) (A.1 4) (A.1 5) (A.1 6) (A.1 7) (A.1 8) (A.1 9) (A.1 10) (A.1 11) (s.1) (s.2.1) (s.2.2.1) (s.2.2.2.1) (s.2.2.2.2.1) (s.2.2.2.2.2.1) (s.2.2.2.2.2.2.1) (s.2.2.2.2.2.2.2) (A.1 12) (A.1 13) (h.1) (h.2.1) (A.2.1) (A.2.2.2.1) (h.2.2) (A.2.2.1) (fl) (A.2.2.2.2) (qv) (tyT tx (upF (srF y 2) 100)) (2) (k1.1.1.1.1) (k1.1.1.1.2.1) (k1.1.1.1.2.2.1) (k1.1.1.1.2.2.2.1) (k1.1.1.2) (k1.1.1.1.2.2.2.2) (k1.2.1.1) (k1.2.1.2) (hA.1) (hA.2) (k1.2.2.1) (k1.2.2.2.1) (k1.2.2.2.2)) rfl (cwV 0 Z.1.2.2.2.2 gL_act_X6_entries rfl rfl rfl (by decide +kernel) ⟨Nat.le_of_ble_eq_true rfl, Nat.le_of_ble_eq_true rfl⟩) rfl (Nat.le_of_ble_eq_true rfl) ⟨Nat.le_of_ble_eq_true rfl, Nat.le_of_ble_eq_true rfl⟩ (fun _ => OW ct A s h fl qv (tyT tx (upF (srF y 2) 100)) 2) (fun _ => [zi (((s.2.2.2.2.1) : Nat) : Int), .int (srF y 9), .ref (A.1 0), .ref (A.1 0)]) (fun _ => rfl) rfl (fun _ => rfl) (fun _ _ => ?_)
        refine z_callS0 (rest := [.ref (A.1 0), .ref (A.1 0)]) Z dL_act_157 (zc_L_up l D ct (srF y 9) (s.2.2.2.2.1) (by omega) (by omega)) (va_cwS 2 Z.1.2.2.2.2 gL_act_L_up rfl rfl rfl (by decide +kernel) ⟨Nat.le_of_ble_eq_true rfl, Nat.le_of_ble_eq_true rfl⟩) rfl (Nat.le_of_ble_eq_true rfl) ⟨Nat.le_of_ble_eq_true rfl, Nat.le_of_ble_eq_true rfl⟩ [zi ((upF (srF y 9) (s.2.2.2.2.1) : Nat) : Int), .ref (A.1 0), .ref (A.1 0)] rfl rfl ?_
        have hu157 := upF_lt (srF y 9) (n := s.2.2.2.2.1) (by omega)
        have hu9 := upF_lt (srF y 9) (n := s.2.2.2.2.1) (by omega)
        refine z_callVw (rest := [.ref (A.1 0)]) Z dL_act_160 5 0 _ _ rfl rfl rfl (zc_X6_idAt l D ct (A.1 0) (A.1 1) (A.1 2) (A.1 3) (A.1 4) (A.1 5) (A.1 6) (A.1 7) (A.1 8) (A.1 9) (A.1 10) (A.1 11) (s.1) (s.2.1) (s.2.2.1) (s.2.2.2.1) (s.2.2.2.2.1) (s.2.2.2.2.2.1) (s.2.2.2.2.2.2.1) (s.2.2.2.2.2.2.2) (A.1 12) (A.1 13) (h.1) (h.2.1) (A.2.1) (A.2.2.2.1) (h.2.2) (A.2.2.1) (fl) (A.2.2.2.2) (qv) (tyT tx (upF (srF y 2) 100)) (2) (upF (srF y 9) (s.2.2.2.2.1)) (k1.1.1.1.1) (k1.1.1.1.2.1) (k1.1.1.1.2.2.1) (k1.1.1.1.2.2.2.1) (k1.1.1.2) (k1.1.1.1.2.2.2.2) (k1.2.1.1) (k1.2.1.2) (hA.1) (hA.2) (k1.2.2.1) (k1.2.2.2.1) (k1.2.2.2.2) (by first | assumption | omega)) rfl (cwV 1 Z.1.2.2.2.2 gL_act_X6_idAt rfl rfl rfl (by decide +kernel) ⟨Nat.le_of_ble_eq_true rfl, Nat.le_of_ble_eq_true rfl⟩) rfl (Nat.le_of_ble_eq_true rfl) ⟨Nat.le_of_ble_eq_true rfl, Nat.le_of_ble_eq_true rfl⟩ (fun _ => OW ct A s h fl qv (tyT tx (upF (srF y 2) 100)) 2) (fun _ => [zi (if (upF (srF y 9) (s.2.2.2.2.1)) < (s.2.2.2.2.1) then (((s.1) (upF (srF y 9) (s.2.2.2.2.1)) % 1000 : Nat) : Int) else -2), .ref (A.1 0)]) (fun _ => rfl) rfl (fun _ => rfl) (fun _ _ => ?_)
        have hid9 := fo_id k.1 (k := (upF (srF y 9) s.2.2.2.2.1)) (by omega)
        refine z_top (y := ((s.1 (upF (srF y 9) s.2.2.2.2.1) % 1000 : Nat) : Int)) (by rw [if_pos (by omega)]) ?_
        refine z_callVw (rest := []) Z dL_act_163 5 0 _ _ rfl rfl rfl (zc_X6_rename l D ct (A.1 0) (A.1 1) (A.1 2) (A.1 3) (A.1 4) (A.1 5) (A.1 6) (A.1 7) (A.1 8) (A.1 9) (A.1 10) (A.1 11) (s.1) (s.2.1) (s.2.2.1) (s.2.2.2.1) (s.2.2.2.2.1) (s.2.2.2.2.2.1) (s.2.2.2.2.2.2.1) (s.2.2.2.2.2.2.2) (A.1 12) (A.1 13) (h.1) (h.2.1) (A.2.1) (A.2.2.2.1) (h.2.2) (A.2.2.1) (fl) (A.2.2.2.2) (qv) (tyT tx (upF (srF y 2) 100)) (2) (((s.1 (upF (srF y 9) s.2.2.2.2.1) % 1000 : Nat) : Int)) (k1.1.1.1.1) (k1.1.1.1.2.1) (k1.1.1.1.2.2.1) (k1.1.1.1.2.2.2.1) (k1.1.1.2) (k1.1.1.1.2.2.2.2) (k1.2.1.1) (k1.2.1.2) (hA.1) (hA.2) (k1.2.2.1) (k1.2.2.2.1) (k1.2.2.2.2) (by first | assumption | omega) (by rw [hid9]; omega) (nb_ty1 _ _) (⟨hids, by rw [nb_ty]; exact hfo9⟩)) rfl (cwV 1 Z.1.2.2.2.2 gL_act_X6_rename rfl rfl rfl (by decide +kernel) ⟨Nat.le_of_ble_eq_true rfl, Nat.le_of_ble_eq_true rfl⟩) rfl (Nat.le_of_ble_eq_true rfl) ⟨Nat.le_of_ble_eq_true rfl, Nat.le_of_ble_eq_true rfl⟩ (fun _ => OW ct A (mkS (nbF (tyT tx (upF (srF y 2) 100)) 0 2) (rmS (foF (idP s.1 ((s.1 (upF (srF y 9) s.2.2.2.2.1) % 1000 : Nat) : Int)) s.2.2.2.2.1).toNat s)) (phH s h) fl qv (tyT tx (upF (srF y 2) 100)) 0) (fun _ => [zi (((s.2.2.2.2.2.2.2) : Nat) : Int)]) (fun _ => rfl) rfl (fun _ => rfl) (fun _ _ => ?_)
        refine z_eqs (OW ct A (mkS (n2F (upF (srF y 2) 100)) (rmS (upF (srF y 9) s.2.2.2.2.1) s)) (phH s h) fl qv (tyT tx (upF (srF y 2) 100)) 0) _ _ (by rw [hid9, nb_ty] <;> rfl) rfl rfl ?_
        have k7 : okW (mkS (n2F (upF (srF y 2) 100)) (rmS (upF (srF y 9) s.2.2.2.2.1) s)) (phH s h) fl qv (tyT tx (upF (srF y 2) 100)) 0 := (k1).st0 (Gd_mk (Gd_rm (k1).1 (by omega)).1 (by show s.2.2.2.2.1 - 1 < 40; omega) hids (n2F_lt _) (n2F_l _)).1 (okH_ph _ (k1).2.1)
        have ha9 : actF (qv 0) s x y = rnV (n2F (upF (srF y 2) 100)) (upF (srF y 9) s.2.2.2.2.1) s := by unfold actF; rw [actN_2 hw9, if_neg (fun z => z.elim (by omega) (fun z => z hfo9))]
        refine z_eqs (OW ct A ((actF (qv 0) s x y).1) (phH s h) fl qv (tyT tx (upF (srF y 2) 100)) 0) _ [zi ((actF (qv 0) s x y).2)] (by rw [ha9] <;> rfl) rfl (by rw [ha9] <;> rfl) ?_
        exact hR _ _ 0 (by decide) dL_act_166
      · have hor9 : s.2.2.2.2.1 = 0 ∨ (foF (nmP s.2.1 (n2F (upF (srF y 2) 100))) s.2.2.2.2.1) ≠ -1 := .inr (fdV_ge (by omega))
        refine z_aload_n Z dL_act_139 3 rfl ?_
        refine z_iload_n Z dL_act_140 2 rfl ?_
        refine z_callVw (rest := []) Z dL_act_141 5 0 _ _ rfl rfl rfl (zc_X6_open l D ct (A.1 0) (A.1 1) (A.1 2) (A.1 3) (A.1 4) (A.1 5) (A.1 6) (A.1 7) (A.1 8) (A.1 9) (A.1 10) (A.1 11) (s.1) (s.2.1) (s.2.2.1) (s.2.2.2.1) (s.2.2.2.2.1) (s.2.2.2.2.2.1) (s.2.2.2.2.2.2.1) (s.2.2.2.2.2.2.2) (A.1 12) (A.1 13) (h.1) (h.2.1) (A.2.1) (A.2.2.2.1) (h.2.2) (A.2.2.1) (fl) (A.2.2.2.2) (qv) (tyT tx (upF (srF y 2) 100)) (2) (upF y 4) (k1.1.1.1.1) (k1.1.1.1.2.1) (k1.1.1.1.2.2.1) (k1.1.1.1.2.2.2.1) (k1.1.1.2) (k1.1.1.1.2.2.2.2) (k1.2.1.1) (k1.2.1.2) (hA.1) (hA.2) (k1.2.2.1) (k1.2.2.2.1) (k1.2.2.2.2) (hu2)) rfl (cwV 1 Z.1.2.2.2.2 gL_act_X6_open rfl rfl rfl (by decide +kernel) ⟨Nat.le_of_ble_eq_true rfl, Nat.le_of_ble_eq_true rfl⟩) rfl (Nat.le_of_ble_eq_true rfl) ⟨Nat.le_of_ble_eq_true rfl, Nat.le_of_ble_eq_true rfl⟩ (fun _ => OW ct A (pzS s (zU s.2.2.2.1 (upF y 4) (-1))) (phH s h) fl qv (tyT tx (upF (srF y 2) 100)) 2) (fun _ => [zi ((orF (zU (s.2.2.2.1) (upF y 4) (-1)) 4 : Nat) : Int)]) (fun _ => rfl) rfl (fun _ => rfl) (fun _ _ => ?_)
        have k8 : okW (pzS s (zU s.2.2.2.1 (upF y 4) (-1))) (phH s h) fl qv (tyT tx (upF (srF y 2) 100)) 2 := (k1).st (Gd_pos (k1).1 (zU_p (k1).1.1.2 (by decide))) (okH_ph _ (k1).2.1)
        refine z_goto Z 166 dL_act_144 (by decide) ?_
        have ha9 : actF (qv 0) s x y = opV (upF y 4) s := by unfold actF; rw [actN_2 hw9, if_pos hor9]
        refine z_eqs (OW ct A ((actF (qv 0) s x y).1) (phH s h) fl qv (tyT tx (upF (srF y 2) 100)) 2) _ [zi ((actF (qv 0) s x y).2)] (by rw [ha9] <;> rfl) rfl (by rw [ha9] <;> rfl) ?_
        exact hR _ _ 2 (by decide) dL_act_166
  · refine z_iload_n Z dL_act_26 4 rfl ?_
    refine z_bipush (v := 16) Z dL_act_27 (by decide +kernel) ?_
    refine z_callS0 (rest := []) Z dL_act_29 (zc_L_up l D ct (x) (16) (by omega) (by omega)) (va_cwS 2 Z.1.2.2.2.2 gL_act_L_up rfl rfl rfl (by decide +kernel) ⟨Nat.le_of_ble_eq_true rfl, Nat.le_of_ble_eq_true rfl⟩) rfl (Nat.le_of_ble_eq_true rfl) ⟨Nat.le_of_ble_eq_true rfl, Nat.le_of_ble_eq_true rfl⟩ [zi ((upF x 16 : Nat) : Int)] rfl rfl ?_
    have hu29 := upF_lt x (n := 16) (by omega)
    refine z_top (y := 3) (by omega) ?_
    refine z_tableIn Z 167 dL_act_32 (by omega) (by omega) (by omega) rfl (by decide) ?_
    refine z_aload_n Z dL_act_167 3 rfl ?_
    refine z_iload_n Z dL_act_168 2 rfl ?_
    refine z_callVw (rest := []) Z dL_act_169 5 0 _ _ rfl rfl rfl (zc_X6_open l D ct (A.1 0) (A.1 1) (A.1 2) (A.1 3) (A.1 4) (A.1 5) (A.1 6) (A.1 7) (A.1 8) (A.1 9) (A.1 10) (A.1 11) (s.1) (s.2.1) (s.2.2.1) (s.2.2.2.1) (s.2.2.2.2.1) (s.2.2.2.2.2.1) (s.2.2.2.2.2.2.1) (s.2.2.2.2.2.2.2) (A.1 12) (A.1 13) (h.1) (h.2.1) (A.2.1) (A.2.2.2.1) (h.2.2) (A.2.2.1) (fl) (A.2.2.2.2) (qv) (tyT tx (upF (srF y 2) 100)) (2) (upF y 4) (k1.1.1.1.1) (k1.1.1.1.2.1) (k1.1.1.1.2.2.1) (k1.1.1.1.2.2.2.1) (k1.1.1.2) (k1.1.1.1.2.2.2.2) (k1.2.1.1) (k1.2.1.2) (hA.1) (hA.2) (k1.2.2.1) (k1.2.2.2.1) (k1.2.2.2.2) (hu2)) rfl (cwV 1 Z.1.2.2.2.2 gL_act_X6_open rfl rfl rfl (by decide +kernel) ⟨Nat.le_of_ble_eq_true rfl, Nat.le_of_ble_eq_true rfl⟩) rfl (Nat.le_of_ble_eq_true rfl) ⟨Nat.le_of_ble_eq_true rfl, Nat.le_of_ble_eq_true rfl⟩ (fun _ => OW ct A (pzS s (zU s.2.2.2.1 (upF y 4) (-1))) (phH s h) fl qv (tyT tx (upF (srF y 2) 100)) 2) (fun _ => [zi ((orF (zU (s.2.2.2.1) (upF y 4) (-1)) 4 : Nat) : Int)]) (fun _ => rfl) rfl (fun _ => rfl) (fun _ _ => ?_)
    have k9 : okW (pzS s (zU s.2.2.2.1 (upF y 4) (-1))) (phH s h) fl qv (tyT tx (upF (srF y 2) 100)) 2 := (k1).st (Gd_pos (k1).1 (zU_p (k1).1.1.2 (by decide))) (okH_ph _ (k1).2.1)
    have ha9 : actF (qv 0) s x y = opV (upF y 4) s := by unfold actF; rw [actN_3 hw9]
    refine z_eqs (OW ct A ((actF (qv 0) s x y).1) (phH s h) fl qv (tyT tx (upF (srF y 2) 100)) 2) _ [zi ((actF (qv 0) s x y).2)] (by rw [ha9] <;> rfl) rfl (by rw [ha9] <;> rfl) ?_
    exact hR _ _ 2 (by decide) dL_act_172
  · refine z_iload_n Z dL_act_26 4 rfl ?_
    refine z_bipush (v := 16) Z dL_act_27 (by decide +kernel) ?_
    refine z_callS0 (rest := []) Z dL_act_29 (zc_L_up l D ct (x) (16) (by omega) (by omega)) (va_cwS 2 Z.1.2.2.2.2 gL_act_L_up rfl rfl rfl (by decide +kernel) ⟨Nat.le_of_ble_eq_true rfl, Nat.le_of_ble_eq_true rfl⟩) rfl (Nat.le_of_ble_eq_true rfl) ⟨Nat.le_of_ble_eq_true rfl, Nat.le_of_ble_eq_true rfl⟩ [zi ((upF x 16 : Nat) : Int)] rfl rfl ?_
    have hu29 := upF_lt x (n := 16) (by omega)
    refine z_top (y := 4) (by omega) ?_
    refine z_tableIn Z 173 dL_act_32 (by omega) (by omega) (by omega) rfl (by decide) ?_
    refine z_aload_n Z dL_act_173 3 rfl ?_
    refine z_iload_n Z dL_act_174 2 rfl ?_
    refine z_callVw (rest := []) Z dL_act_175 5 0 _ _ rfl rfl rfl (zc_X6_position l D ct (A.1 0) (A.1 1) (A.1 2) (A.1 3) (A.1 4) (A.1 5) (A.1 6) (A.1 7) (A.1 8) (A.1 9) (A.1 10) (A.1 11) (s.1) (s.2.1) (s.2.2.1) (s.2.2.2.1) (s.2.2.2.2.1) (s.2.2.2.2.2.1) (s.2.2.2.2.2.2.1) (s.2.2.2.2.2.2.2) (A.1 12) (A.1 13) (h.1) (h.2.1) (A.2.1) (A.2.2.2.1) (h.2.2) (A.2.2.1) (fl) (A.2.2.2.2) (qv) (tyT tx (upF (srF y 2) 100)) (2) (upF y 4) (k1.1.1.1.1) (k1.1.1.1.2.1) (k1.1.1.1.2.2.1) (k1.1.1.1.2.2.2.1) (k1.1.1.2) (k1.1.1.1.2.2.2.2) (k1.2.1.1) (k1.2.1.2) (hA.1) (hA.2) (k1.2.2.1) (k1.2.2.2.1) (k1.2.2.2.2) (hu2)) rfl (cwV 1 Z.1.2.2.2.2 gL_act_X6_position rfl rfl rfl (by decide +kernel) ⟨Nat.le_of_ble_eq_true rfl, Nat.le_of_ble_eq_true rfl⟩) rfl (Nat.le_of_ble_eq_true rfl) ⟨Nat.le_of_ble_eq_true rfl, Nat.le_of_ble_eq_true rfl⟩ (fun _ => OW ct A s h fl qv (tyT tx (upF (srF y 2) 100)) 2) (fun _ => [zi ((s.2.2.2.1) (upF y 4))]) (fun _ => rfl) rfl (fun _ => rfl) (fun _ _ => ?_)
    refine z_bipush (v := -2) Z dL_act_178 (by decide +kernel) ?_
    refine z_icmp_ne Z 191 dL_act_180 (by decide) (by omega) (by omega) (fun h180 => ?_) (fun h180 => ?_)
    · have hop9 : s.2.2.2.1 (upF y 4) ≠ -2 := by omega
      refine z_iconst (v := 1) Z dL_act_191 rfl ?_
      refine z_aload_n Z dL_act_192 3 rfl ?_
      refine z_iload_n Z dL_act_193 2 rfl ?_
      refine z_iload_n Z dL_act_194 5 rfl ?_
      refine z_iconst (v := 4) Z dL_act_195 rfl ?_
      refine z_ishrX (n := 4) Z dL_act_196 ?_
      refine z_ldc (v := 64001) Z dL_act_197 zlk_L_act_71 ?_
      refine z_callS0 (rest := [zi ((upF y 4 : Nat) : Int), .ref (A.1 0), zi 1]) Z dL_act_199 (zc_L_up l D ct (srF y 4) (64001) (by omega) (by omega)) (va_cwS 2 Z.1.2.2.2.2 gL_act_L_up rfl rfl rfl (by decide +kernel) ⟨Nat.le_of_ble_eq_true rfl, Nat.le_of_ble_eq_true rfl⟩) rfl (Nat.le_of_ble_eq_true rfl) ⟨Nat.le_of_ble_eq_true rfl, Nat.le_of_ble_eq_true rfl⟩ [zi ((upF (srF y 4) 64001 : Nat) : Int), zi ((upF y 4 : Nat) : Int), .ref (A.1 0), zi 1] rfl rfl ?_
      have hu199 := upF_lt (srF y 4) (n := 64001) (by omega)
      refine z_iconst (v := 1) Z dL_act_202 rfl ?_
      refine z_isub Z dL_act_203 ?_
      refine z_callVw (rest := [zi 1]) Z dL_act_204 5 0 _ _ rfl rfl rfl (zc_X6_seek l D ct (A.1 0) (A.1 1) (A.1 2) (A.1 3) (A.1 4) (A.1 5) (A.1 6) (A.1 7) (A.1 8) (A.1 9) (A.1 10) (A.1 11) (s.1) (s.2.1) (s.2.2.1) (s.2.2.2.1) (s.2.2.2.2.1) (s.2.2.2.2.2.1) (s.2.2.2.2.2.2.1) (s.2.2.2.2.2.2.2) (A.1 12) (A.1 13) (h.1) (h.2.1) (A.2.1) (A.2.2.2.1) (h.2.2) (A.2.2.1) (fl) (A.2.2.2.2) (qv) (tyT tx (upF (srF y 2) 100)) (2) (upF y 4) ((((upF (srF y 4) 64001 : Nat) : Int) - 1)) (k1.1.1.1.1) (k1.1.1.1.2.1) (k1.1.1.1.2.2.1) (k1.1.1.1.2.2.2.1) (k1.1.1.2) (k1.1.1.1.2.2.2.2) (k1.2.1.1) (k1.2.1.2) (hA.1) (hA.2) (k1.2.2.1) (k1.2.2.2.1) (k1.2.2.2.2) (hu2) (by first | assumption | omega) (by omega) (hop9)) rfl (cwV 2 Z.1.2.2.2.2 gL_act_X6_seek rfl rfl rfl (by decide +kernel) ⟨Nat.le_of_ble_eq_true rfl, Nat.le_of_ble_eq_true rfl⟩) rfl (Nat.le_of_ble_eq_true rfl) ⟨Nat.le_of_ble_eq_true rfl, Nat.le_of_ble_eq_true rfl⟩ (fun _ => OW ct A (pzS s (zU s.2.2.2.1 (upF y 4) (((upF (srF y 4) 64001 : Nat) : Int) - 1))) (phH s h) fl qv (tyT tx (upF (srF y 2) 100)) 2) (fun _ => [zi ((s.2.2.2.1) (upF y 4)), zi 1]) (fun _ => rfl) rfl (fun _ => rfl) (fun _ _ => ?_)
      have k10 : okW (pzS s (zU s.2.2.2.1 (upF y 4) (((upF (srF y 4) 64001 : Nat) : Int) - 1))) (phH s h) fl qv (tyT tx (upF (srF y 2) 100)) 2 := (k1).st (Gd_pos (k1).1 (zU_p (k1).1.1.2 (by omega))) (okH_ph _ (k1).2.1)
      refine z_iadd Z dL_act_207 ?_
      have ha9 : actF (qv 0) s x y = skV (upF y 4) (((upF (srF y 4) 64001 : Nat) : Int) - 1) s := by unfold actF; rw [actN_4 hw9, if_neg hop9]
      refine z_eqs (OW ct A ((actF (qv 0) s x y).1) (phH s h) fl qv (tyT tx (upF (srF y 2) 100)) 2) _ [zi ((actF (qv 0) s x y).2)] (by rw [ha9] <;> rfl) rfl (by rw [ha9] <;> rfl) ?_
      exact hR _ _ 2 (by decide) dL_act_208
    · have hcl9 : s.2.2.2.1 (upF y 4) = -2 := by omega
      refine z_aload_n Z dL_act_183 3 rfl ?_
      refine z_iload_n Z dL_act_184 2 rfl ?_
      refine z_callVw (rest := []) Z dL_act_185 5 0 _ _ rfl rfl rfl (zc_X6_open l D ct (A.1 0) (A.1 1) (A.1 2) (A.1 3) (A.1 4) (A.1 5) (A.1 6) (A.1 7) (A.1 8) (A.1 9) (A.1 10) (A.1 11) (s.1) (s.2.1) (s.2.2.1) (s.2.2.2.1) (s.2.2.2.2.1) (s.2.2.2.2.2.1) (s.2.2.2.2.2.2.1) (s.2.2.2.2.2.2.2) (A.1 12) (A.1 13) (h.1) (h.2.1) (A.2.1) (A.2.2.2.1) (h.2.2) (A.2.2.1) (fl) (A.2.2.2.2) (qv) (tyT tx (upF (srF y 2) 100)) (2) (upF y 4) (k1.1.1.1.1) (k1.1.1.1.2.1) (k1.1.1.1.2.2.1) (k1.1.1.1.2.2.2.1) (k1.1.1.2) (k1.1.1.1.2.2.2.2) (k1.2.1.1) (k1.2.1.2) (hA.1) (hA.2) (k1.2.2.1) (k1.2.2.2.1) (k1.2.2.2.2) (hu2)) rfl (cwV 1 Z.1.2.2.2.2 gL_act_X6_open rfl rfl rfl (by decide +kernel) ⟨Nat.le_of_ble_eq_true rfl, Nat.le_of_ble_eq_true rfl⟩) rfl (Nat.le_of_ble_eq_true rfl) ⟨Nat.le_of_ble_eq_true rfl, Nat.le_of_ble_eq_true rfl⟩ (fun _ => OW ct A (pzS s (zU s.2.2.2.1 (upF y 4) (-1))) (phH s h) fl qv (tyT tx (upF (srF y 2) 100)) 2) (fun _ => [zi ((orF (zU (s.2.2.2.1) (upF y 4) (-1)) 4 : Nat) : Int)]) (fun _ => rfl) rfl (fun _ => rfl) (fun _ _ => ?_)
      have k11 : okW (pzS s (zU s.2.2.2.1 (upF y 4) (-1))) (phH s h) fl qv (tyT tx (upF (srF y 2) 100)) 2 := (k1).st (Gd_pos (k1).1 (zU_p (k1).1.1.2 (by decide))) (okH_ph _ (k1).2.1)
      refine z_goto Z 208 dL_act_188 (by decide) ?_
      have ha9 : actF (qv 0) s x y = opV (upF y 4) s := by unfold actF; rw [actN_4 hw9, if_pos hcl9]
      refine z_eqs (OW ct A ((actF (qv 0) s x y).1) (phH s h) fl qv (tyT tx (upF (srF y 2) 100)) 2) _ [zi ((actF (qv 0) s x y).2)] (by rw [ha9] <;> rfl) rfl (by rw [ha9] <;> rfl) ?_
      exact hR _ _ 2 (by decide) dL_act_208
  · refine z_iload_n Z dL_act_26 4 rfl ?_
    refine z_bipush (v := 16) Z dL_act_27 (by decide +kernel) ?_
    refine z_callS0 (rest := []) Z dL_act_29 (zc_L_up l D ct (x) (16) (by omega) (by omega)) (va_cwS 2 Z.1.2.2.2.2 gL_act_L_up rfl rfl rfl (by decide +kernel) ⟨Nat.le_of_ble_eq_true rfl, Nat.le_of_ble_eq_true rfl⟩) rfl (Nat.le_of_ble_eq_true rfl) ⟨Nat.le_of_ble_eq_true rfl, Nat.le_of_ble_eq_true rfl⟩ [zi ((upF x 16 : Nat) : Int)] rfl rfl ?_
    have hu29 := upF_lt x (n := 16) (by omega)
    refine z_top (y := 5) (by omega) ?_
    refine z_tableIn Z 209 dL_act_32 (by omega) (by omega) (by omega) rfl (by decide) ?_
    refine z_aload_n Z dL_act_209 3 rfl ?_
    refine z_iload_n Z dL_act_210 2 rfl ?_
    refine z_callVw (rest := []) Z dL_act_211 5 0 _ _ rfl rfl rfl (zc_X6_position l D ct (A.1 0) (A.1 1) (A.1 2) (A.1 3) (A.1 4) (A.1 5) (A.1 6) (A.1 7) (A.1 8) (A.1 9) (A.1 10) (A.1 11) (s.1) (s.2.1) (s.2.2.1) (s.2.2.2.1) (s.2.2.2.2.1) (s.2.2.2.2.2.1) (s.2.2.2.2.2.2.1) (s.2.2.2.2.2.2.2) (A.1 12) (A.1 13) (h.1) (h.2.1) (A.2.1) (A.2.2.2.1) (h.2.2) (A.2.2.1) (fl) (A.2.2.2.2) (qv) (tyT tx (upF (srF y 2) 100)) (2) (upF y 4) (k1.1.1.1.1) (k1.1.1.1.2.1) (k1.1.1.1.2.2.1) (k1.1.1.1.2.2.2.1) (k1.1.1.2) (k1.1.1.1.2.2.2.2) (k1.2.1.1) (k1.2.1.2) (hA.1) (hA.2) (k1.2.2.1) (k1.2.2.2.1) (k1.2.2.2.2) (hu2)) rfl (cwV 1 Z.1.2.2.2.2 gL_act_X6_position rfl rfl rfl (by decide +kernel) ⟨Nat.le_of_ble_eq_true rfl, Nat.le_of_ble_eq_true rfl⟩) rfl (Nat.le_of_ble_eq_true rfl) ⟨Nat.le_of_ble_eq_true rfl, Nat.le_of_ble_eq_true rfl⟩ (fun _ => OW ct A s h fl qv (tyT tx (upF (srF y 2) 100)) 2) (fun _ => [zi ((s.2.2.2.1) (upF y 4))]) (fun _ => rfl) rfl (fun _ => rfl) (fun _ _ => ?_)
    refine z_bipush (v := -2) Z dL_act_214 (by decide +kernel) ?_
    refine z_icmp_ne Z 227 dL_act_216 (by decide) (by omega) (by omega) (fun h216 => ?_) (fun h216 => ?_)
    · have hop9 : s.2.2.2.1 (upF y 4) ≠ -2 := by omega
      rcases Nat.lt_or_ge (paV (upF y 4) s) (elV (upF y 4) s) with hrl9 | hrl9
      · refine z_aload_n Z dL_act_227 3 rfl ?_
        refine z_iload_n Z dL_act_228 2 rfl ?_
        refine z_callVw (rest := []) Z dL_act_229 5 0 _ _ rfl rfl rfl (zc_X6_readLeaf_3 l D ct (A.1 0) (A.1 1) (A.1 2) (A.1 3) (A.1 4) (A.1 5) (A.1 6) (A.1 7) (A.1 8) (A.1 9) (A.1 10) (A.1 11) (s.1) (s.2.1) (s.2.2.1) (s.2.2.2.1) (s.2.2.2.2.1) (s.2.2.2.2.2.1) (s.2.2.2.2.2.2.1) (s.2.2.2.2.2.2.2) (A.1 12) (A.1 13) (h.1) (h.2.1) (A.2.1) (A.2.2.2.1) (h.2.2) (A.2.2.1) (fl) (A.2.2.2.2) (qv) (tyT tx (upF (srF y 2) 100)) (2) (upF y 4) (k1.1.1.1.1) (k1.1.1.1.2.1) (k1.1.1.1.2.2.1) (k1.1.1.1.2.2.2.1) (k1.1.1.2) (k1.1.1.1.2.2.2.2) (k1.2.1.1) (k1.2.1.2) (hA.1) (hA.2) (k1.2.2.1) (k1.2.2.2.1) (k1.2.2.2.2) (hu2) (hop9) (hrl9)) rfl (cwV 1 Z.1.2.2.2.2 gL_act_X6_readLeaf rfl rfl rfl (by decide +kernel) ⟨Nat.le_of_ble_eq_true rfl, Nat.le_of_ble_eq_true rfl⟩) rfl (Nat.le_of_ble_eq_true rfl) ⟨Nat.le_of_ble_eq_true rfl, Nat.le_of_ble_eq_true rfl⟩ (fun _ => OW ct A (pzS s (zU s.2.2.2.1 (upF y 4) ((s.1 ((if (paF s.1 s.2.2.2.2.1 (s.2.2.2.1 (upF y 4))) < s.2.2.2.2.1 then elF s.1 s.2.2.1 s.2.2.2.2.1 (paF s.1 s.2.2.2.2.1 (s.2.2.2.1 (upF y 4))) else (paF s.1 s.2.2.2.2.1 (s.2.2.2.1 (upF y 4)))) - 1) : Nat) : Int))) (phH s h) fl qv (tyT tx (upF (srF y 2) 100)) 2) (fun _ => [zi (((if paF (s.1) (s.2.2.2.2.1) ((s.2.2.2.1) (upF y 4)) < (s.2.2.2.2.1) then elF (s.1) (s.2.2.1) (s.2.2.2.2.1) (paF (s.1) (s.2.2.2.2.1) ((s.2.2.2.1) (upF y 4))) else paF (s.1) (s.2.2.2.2.1) ((s.2.2.2.1) (upF y 4))) - paF (s.1) (s.2.2.2.2.1) ((s.2.2.2.1) (upF y 4)) : Nat) : Int)]) (fun _ => rfl) rfl (fun _ => rfl) (fun _ _ => ?_)
        refine z_eqs (OW ct A (pzS s (zU s.2.2.2.1 (upF y 4) ((s.1 (elV (upF y 4) s - 1) : Nat) : Int))) (phH s h) fl qv (tyT tx (upF (srF y 2) 100)) 2) _ _ (rfl) rfl rfl ?_
        have k12 : okW (pzS s (zU s.2.2.2.1 (upF y 4) ((s.1 (elV (upF y 4) s - 1) : Nat) : Int))) (phH s h) fl qv (tyT tx (upF (srF y 2) 100)) 2 := (k1).st (Gd_pos (k1).1 (zU_p (k1).1.1.2 (by have := (k1).1.1.1.2.1 (elV (upF y 4) s - 1) (by have := elV_le (upF y 4) s; omega); omega))) (okH_ph _ (k1).2.1)
        have ha9 : actF (qv 0) s x y = rlV (upF y 4) s := by unfold actF; rw [actN_5 hw9, if_neg hop9]
        have hv9 : rlV (upF y 4) s = (pzS s (zU s.2.2.2.1 (upF y 4) ((s.1 (elV (upF y 4) s - 1) : Nat) : Int)), ((elV (upF y 4) s - paV (upF y 4) s : Nat) : Int)) := if_pos hrl9
        refine z_eqs (OW ct A ((actF (qv 0) s x y).1) (phH s h) fl qv (tyT tx (upF (srF y 2) 100)) 2) _ [zi ((actF (qv 0) s x y).2)] (by rw [ha9, hv9] <;> rfl) rfl (by rw [ha9, hv9] <;> rfl) ?_
        exact hR _ _ 2 (by decide) dL_act_232
      · refine z_aload_n Z dL_act_227 3 rfl ?_
        refine z_iload_n Z dL_act_228 2 rfl ?_
        refine z_callVw (rest := []) Z dL_act_229 5 0 _ _ rfl rfl rfl (zc_X6_readLeaf l D ct (A.1 0) (A.1 1) (A.1 2) (A.1 3) (A.1 4) (A.1 5) (A.1 6) (A.1 7) (A.1 8) (A.1 9) (A.1 10) (A.1 11) (s.1) (s.2.1) (s.2.2.1) (s.2.2.2.1) (s.2.2.2.2.1) (s.2.2.2.2.2.1) (s.2.2.2.2.2.2.1) (s.2.2.2.2.2.2.2) (A.1 12) (A.1 13) (h.1) (h.2.1) (A.2.1) (A.2.2.2.1) (h.2.2) (A.2.2.1) (fl) (A.2.2.2.2) (qv) (tyT tx (upF (srF y 2) 100)) (2) (upF y 4) (k1.1.1.1.1) (k1.1.1.1.2.1) (k1.1.1.1.2.2.1) (k1.1.1.1.2.2.2.1) (k1.1.1.2) (k1.1.1.1.2.2.2.2) (k1.2.1.1) (k1.2.1.2) (hA.1) (hA.2) (k1.2.2.1) (k1.2.2.2.1) (k1.2.2.2.2) (hu2) (hop9) (hrl9)) rfl (cwV 1 Z.1.2.2.2.2 gL_act_X6_readLeaf rfl rfl rfl (by decide +kernel) ⟨Nat.le_of_ble_eq_true rfl, Nat.le_of_ble_eq_true rfl⟩) rfl (Nat.le_of_ble_eq_true rfl) ⟨Nat.le_of_ble_eq_true rfl, Nat.le_of_ble_eq_true rfl⟩ (fun _ => OW ct A s (phH s h) fl qv (tyT tx (upF (srF y 2) 100)) 2) (fun _ => [zi 0]) (fun _ => rfl) rfl (fun _ => rfl) (fun _ _ => ?_)
        have k13 : okW s (phH s h) fl qv (tyT tx (upF (srF y 2) 100)) 2 := (k1).st (k1).1 (okH_ph _ (k1).2.1)
        have ha9 : actF (qv 0) s x y = rlV (upF y 4) s := by unfold actF; rw [actN_5 hw9, if_neg hop9]
        have hv9 : rlV (upF y 4) s = (s, 0) := if_neg (by omega)
        refine z_eqs (OW ct A ((actF (qv 0) s x y).1) (phH s h) fl qv (tyT tx (upF (srF y 2) 100)) 2) _ [zi ((actF (qv 0) s x y).2)] (by rw [ha9, hv9] <;> rfl) rfl (by rw [ha9, hv9] <;> rfl) ?_
        exact hR _ _ 2 (by decide) dL_act_232
    · have hcl9 : s.2.2.2.1 (upF y 4) = -2 := by omega
      refine z_aload_n Z dL_act_219 3 rfl ?_
      refine z_iload_n Z dL_act_220 2 rfl ?_
      refine z_callVw (rest := []) Z dL_act_221 5 0 _ _ rfl rfl rfl (zc_X6_open l D ct (A.1 0) (A.1 1) (A.1 2) (A.1 3) (A.1 4) (A.1 5) (A.1 6) (A.1 7) (A.1 8) (A.1 9) (A.1 10) (A.1 11) (s.1) (s.2.1) (s.2.2.1) (s.2.2.2.1) (s.2.2.2.2.1) (s.2.2.2.2.2.1) (s.2.2.2.2.2.2.1) (s.2.2.2.2.2.2.2) (A.1 12) (A.1 13) (h.1) (h.2.1) (A.2.1) (A.2.2.2.1) (h.2.2) (A.2.2.1) (fl) (A.2.2.2.2) (qv) (tyT tx (upF (srF y 2) 100)) (2) (upF y 4) (k1.1.1.1.1) (k1.1.1.1.2.1) (k1.1.1.1.2.2.1) (k1.1.1.1.2.2.2.1) (k1.1.1.2) (k1.1.1.1.2.2.2.2) (k1.2.1.1) (k1.2.1.2) (hA.1) (hA.2) (k1.2.2.1) (k1.2.2.2.1) (k1.2.2.2.2) (hu2)) rfl (cwV 1 Z.1.2.2.2.2 gL_act_X6_open rfl rfl rfl (by decide +kernel) ⟨Nat.le_of_ble_eq_true rfl, Nat.le_of_ble_eq_true rfl⟩) rfl (Nat.le_of_ble_eq_true rfl) ⟨Nat.le_of_ble_eq_true rfl, Nat.le_of_ble_eq_true rfl⟩ (fun _ => OW ct A (pzS s (zU s.2.2.2.1 (upF y 4) (-1))) (phH s h) fl qv (tyT tx (upF (srF y 2) 100)) 2) (fun _ => [zi ((orF (zU (s.2.2.2.1) (upF y 4) (-1)) 4 : Nat) : Int)]) (fun _ => rfl) rfl (fun _ => rfl) (fun _ _ => ?_)
      have k14 : okW (pzS s (zU s.2.2.2.1 (upF y 4) (-1))) (phH s h) fl qv (tyT tx (upF (srF y 2) 100)) 2 := (k1).st (Gd_pos (k1).1 (zU_p (k1).1.1.2 (by decide))) (okH_ph _ (k1).2.1)
      refine z_goto Z 232 dL_act_224 (by decide) ?_
      have ha9 : actF (qv 0) s x y = opV (upF y 4) s := by unfold actF; rw [actN_5 hw9, if_pos hcl9]
      refine z_eqs (OW ct A ((actF (qv 0) s x y).1) (phH s h) fl qv (tyT tx (upF (srF y 2) 100)) 2) _ [zi ((actF (qv 0) s x y).2)] (by rw [ha9] <;> rfl) rfl (by rw [ha9] <;> rfl) ?_
      exact hR _ _ 2 (by decide) dL_act_232
  · refine z_iload_n Z dL_act_26 4 rfl ?_
    refine z_bipush (v := 16) Z dL_act_27 (by decide +kernel) ?_
    refine z_callS0 (rest := []) Z dL_act_29 (zc_L_up l D ct (x) (16) (by omega) (by omega)) (va_cwS 2 Z.1.2.2.2.2 gL_act_L_up rfl rfl rfl (by decide +kernel) ⟨Nat.le_of_ble_eq_true rfl, Nat.le_of_ble_eq_true rfl⟩) rfl (Nat.le_of_ble_eq_true rfl) ⟨Nat.le_of_ble_eq_true rfl, Nat.le_of_ble_eq_true rfl⟩ [zi ((upF x 16 : Nat) : Int)] rfl rfl ?_
    have hu29 := upF_lt x (n := 16) (by omega)
    refine z_top (y := 6) (by omega) ?_
    refine z_tableIn Z 233 dL_act_32 (by omega) (by omega) (by omega) rfl (by decide) ?_
    refine z_aload_n Z dL_act_233 3 rfl ?_
    refine z_iload_n Z dL_act_234 2 rfl ?_
    refine z_callVw (rest := []) Z dL_act_235 5 0 _ _ rfl rfl rfl (zc_X6_position l D ct (A.1 0) (A.1 1) (A.1 2) (A.1 3) (A.1 4) (A.1 5) (A.1 6) (A.1 7) (A.1 8) (A.1 9) (A.1 10) (A.1 11) (s.1) (s.2.1) (s.2.2.1) (s.2.2.2.1) (s.2.2.2.2.1) (s.2.2.2.2.2.1) (s.2.2.2.2.2.2.1) (s.2.2.2.2.2.2.2) (A.1 12) (A.1 13) (h.1) (h.2.1) (A.2.1) (A.2.2.2.1) (h.2.2) (A.2.2.1) (fl) (A.2.2.2.2) (qv) (tyT tx (upF (srF y 2) 100)) (2) (upF y 4) (k1.1.1.1.1) (k1.1.1.1.2.1) (k1.1.1.1.2.2.1) (k1.1.1.1.2.2.2.1) (k1.1.1.2) (k1.1.1.1.2.2.2.2) (k1.2.1.1) (k1.2.1.2) (hA.1) (hA.2) (k1.2.2.1) (k1.2.2.2.1) (k1.2.2.2.2) (hu2)) rfl (cwV 1 Z.1.2.2.2.2 gL_act_X6_position rfl rfl rfl (by decide +kernel) ⟨Nat.le_of_ble_eq_true rfl, Nat.le_of_ble_eq_true rfl⟩) rfl (Nat.le_of_ble_eq_true rfl) ⟨Nat.le_of_ble_eq_true rfl, Nat.le_of_ble_eq_true rfl⟩ (fun _ => OW ct A s h fl qv (tyT tx (upF (srF y 2) 100)) 2) (fun _ => [zi ((s.2.2.2.1) (upF y 4))]) (fun _ => rfl) rfl (fun _ => rfl) (fun _ _ => ?_)
    refine z_bipush (v := -2) Z dL_act_238 (by decide +kernel) ?_
    refine z_icmp_ne Z 251 dL_act_240 (by decide) (by omega) (by omega) (fun h240 => ?_) (fun h240 => ?_)
    · have hop9 : s.2.2.2.1 (upF y 4) ≠ -2 := by omega
      rcases (show paV (upF y 4) s < s.2.2.2.2.1 ∨ paF s.1 s.2.2.2.2.1 (s.2.2.2.1 (upF y 4)) = s.2.2.2.2.1 by have := paV_le (upF y 4) s; unfold paV at this ⊢; omega) with hnx9 | hnx9
      · refine z_iconst (v := 2) Z dL_act_251 rfl ?_
        refine z_aload_n Z dL_act_252 3 rfl ?_
        refine z_iload_n Z dL_act_253 2 rfl ?_
        refine z_callVw (rest := [zi 2]) Z dL_act_254 5 0 _ _ rfl rfl rfl (zc_X6_next_3 l D ct (A.1 0) (A.1 1) (A.1 2) (A.1 3) (A.1 4) (A.1 5) (A.1 6) (A.1 7) (A.1 8) (A.1 9) (A.1 10) (A.1 11) (s.1) (s.2.1) (s.2.2.1) (s.2.2.2.1) (s.2.2.2.2.1) (s.2.2.2.2.2.1) (s.2.2.2.2.2.2.1) (s.2.2.2.2.2.2.2) (A.1 12) (A.1 13) (h.1) (h.2.1) (A.2.1) (A.2.2.2.1) (h.2.2) (A.2.2.1) (fl) (A.2.2.2.2) (qv) (tyT tx (upF (srF y 2) 100)) (2) (upF y 4) (k1.1.1.1.1) (k1.1.1.1.2.1) (k1.1.1.1.2.2.1) (k1.1.1.1.2.2.2.1) (k1.1.1.2) (k1.1.1.1.2.2.2.2) (k1.2.1.1) (k1.2.1.2) (hA.1) (hA.2) (k1.2.2.1) (k1.2.2.2.1) (k1.2.2.2.2) (hu2) (hop9) (hnx9)) rfl (cwV 1 Z.1.2.2.2.2 gL_act_X6_next rfl rfl rfl (by decide +kernel) ⟨Nat.le_of_ble_eq_true rfl, Nat.le_of_ble_eq_true rfl⟩) rfl (Nat.le_of_ble_eq_true rfl) ⟨Nat.le_of_ble_eq_true rfl, Nat.le_of_ble_eq_true rfl⟩ (fun _ => OW ct A (pzS s (zU s.2.2.2.1 (upF y 4) ((s.1 (paF s.1 s.2.2.2.2.1 (s.2.2.2.1 (upF y 4))) : Nat) : Int))) (phH s h) fl qv (tyT tx (upF (srF y 2) 100)) 2) (fun _ => [zi (((s.1) (paF (s.1) (s.2.2.2.2.1) ((s.2.2.2.1) (upF y 4))) % 1000 : Nat) : Int), zi 2]) (fun _ => rfl) rfl (fun _ => rfl) (fun _ _ => ?_)
        refine z_eqs (OW ct A (pzS s (zU s.2.2.2.1 (upF y 4) ((s.1 (paV (upF y 4) s) : Nat) : Int))) (phH s h) fl qv (tyT tx (upF (srF y 2) 100)) 2) _ _ (rfl) rfl rfl ?_
        have k15 : okW (pzS s (zU s.2.2.2.1 (upF y 4) ((s.1 (paV (upF y 4) s) : Nat) : Int))) (phH s h) fl qv (tyT tx (upF (srF y 2) 100)) 2 := (k1).st (Gd_pos (k1).1 (zU_p (k1).1.1.2 (by have := (k1).1.1.1.2.1 (paV (upF y 4) s) (by omega); omega))) (okH_ph _ (k1).2.1)
        refine z_iadd Z dL_act_257 ?_
        refine z_top (y := ((2 + ((s.1) (paF (s.1) (s.2.2.2.2.1) ((s.2.2.2.1) (upF y 4))) % 1000) : Nat) : Int)) (by omega) ?_
        have ha9 : actF (qv 0) s x y = nxV (upF y 4) s := by unfold actF; rw [actN_6 (.inl hw9), if_neg hop9]
        have hv9 : nxV (upF y 4) s = (pzS s (zU s.2.2.2.1 (upF y 4) ((s.1 (paV (upF y 4) s) : Nat) : Int)), ((2 + s.1 (paV (upF y 4) s) % 1000 : Nat) : Int)) := if_pos hnx9
        refine z_eqs (OW ct A ((actF (qv 0) s x y).1) (phH s h) fl qv (tyT tx (upF (srF y 2) 100)) 2) _ [zi ((actF (qv 0) s x y).2)] (by rw [ha9, hv9] <;> rfl) rfl (by rw [ha9, hv9] <;> rfl) ?_
        exact hR _ _ 2 (by decide) dL_act_258
      · refine z_iconst (v := 2) Z dL_act_251 rfl ?_
        refine z_aload_n Z dL_act_252 3 rfl ?_
        refine z_iload_n Z dL_act_253 2 rfl ?_
        refine z_callVw (rest := [zi 2]) Z dL_act_254 5 0 _ _ rfl rfl rfl (zc_X6_next l D ct (A.1 0) (A.1 1) (A.1 2) (A.1 3) (A.1 4) (A.1 5) (A.1 6) (A.1 7) (A.1 8) (A.1 9) (A.1 10) (A.1 11) (s.1) (s.2.1) (s.2.2.1) (s.2.2.2.1) (s.2.2.2.2.1) (s.2.2.2.2.2.1) (s.2.2.2.2.2.2.1) (s.2.2.2.2.2.2.2) (A.1 12) (A.1 13) (h.1) (h.2.1) (A.2.1) (A.2.2.2.1) (h.2.2) (A.2.2.1) (fl) (A.2.2.2.2) (qv) (tyT tx (upF (srF y 2) 100)) (2) (upF y 4) (k1.1.1.1.1) (k1.1.1.1.2.1) (k1.1.1.1.2.2.1) (k1.1.1.1.2.2.2.1) (k1.1.1.2) (k1.1.1.1.2.2.2.2) (k1.2.1.1) (k1.2.1.2) (hA.1) (hA.2) (k1.2.2.1) (k1.2.2.2.1) (k1.2.2.2.2) (hu2) (hop9) (hnx9)) rfl (cwV 1 Z.1.2.2.2.2 gL_act_X6_next rfl rfl rfl (by decide +kernel) ⟨Nat.le_of_ble_eq_true rfl, Nat.le_of_ble_eq_true rfl⟩) rfl (Nat.le_of_ble_eq_true rfl) ⟨Nat.le_of_ble_eq_true rfl, Nat.le_of_ble_eq_true rfl⟩ (fun _ => OW ct A s (phH s h) fl qv (tyT tx (upF (srF y 2) 100)) 2) (fun _ => [zi (-2), zi 2]) (fun _ => rfl) rfl (fun _ => rfl) (fun _ _ => ?_)
        have k16 : okW s (phH s h) fl qv (tyT tx (upF (srF y 2) 100)) 2 := (k1).st (k1).1 (okH_ph _ (k1).2.1)
        refine z_iadd Z dL_act_257 ?_
        have ha9 : actF (qv 0) s x y = nxV (upF y 4) s := by unfold actF; rw [actN_6 (.inl hw9), if_neg hop9]
        have hv9 : nxV (upF y 4) s = (s, 0) := if_neg (by unfold paV; omega)
        refine z_eqs (OW ct A ((actF (qv 0) s x y).1) (phH s h) fl qv (tyT tx (upF (srF y 2) 100)) 2) _ [zi ((actF (qv 0) s x y).2)] (by rw [ha9, hv9] <;> rfl) rfl (by rw [ha9, hv9] <;> rfl) ?_
        exact hR _ _ 2 (by decide) dL_act_258
    · have hcl9 : s.2.2.2.1 (upF y 4) = -2 := by omega
      refine z_aload_n Z dL_act_243 3 rfl ?_
      refine z_iload_n Z dL_act_244 2 rfl ?_
      refine z_callVw (rest := []) Z dL_act_245 5 0 _ _ rfl rfl rfl (zc_X6_open l D ct (A.1 0) (A.1 1) (A.1 2) (A.1 3) (A.1 4) (A.1 5) (A.1 6) (A.1 7) (A.1 8) (A.1 9) (A.1 10) (A.1 11) (s.1) (s.2.1) (s.2.2.1) (s.2.2.2.1) (s.2.2.2.2.1) (s.2.2.2.2.2.1) (s.2.2.2.2.2.2.1) (s.2.2.2.2.2.2.2) (A.1 12) (A.1 13) (h.1) (h.2.1) (A.2.1) (A.2.2.2.1) (h.2.2) (A.2.2.1) (fl) (A.2.2.2.2) (qv) (tyT tx (upF (srF y 2) 100)) (2) (upF y 4) (k1.1.1.1.1) (k1.1.1.1.2.1) (k1.1.1.1.2.2.1) (k1.1.1.1.2.2.2.1) (k1.1.1.2) (k1.1.1.1.2.2.2.2) (k1.2.1.1) (k1.2.1.2) (hA.1) (hA.2) (k1.2.2.1) (k1.2.2.2.1) (k1.2.2.2.2) (hu2)) rfl (cwV 1 Z.1.2.2.2.2 gL_act_X6_open rfl rfl rfl (by decide +kernel) ⟨Nat.le_of_ble_eq_true rfl, Nat.le_of_ble_eq_true rfl⟩) rfl (Nat.le_of_ble_eq_true rfl) ⟨Nat.le_of_ble_eq_true rfl, Nat.le_of_ble_eq_true rfl⟩ (fun _ => OW ct A (pzS s (zU s.2.2.2.1 (upF y 4) (-1))) (phH s h) fl qv (tyT tx (upF (srF y 2) 100)) 2) (fun _ => [zi ((orF (zU (s.2.2.2.1) (upF y 4) (-1)) 4 : Nat) : Int)]) (fun _ => rfl) rfl (fun _ => rfl) (fun _ _ => ?_)
      have k17 : okW (pzS s (zU s.2.2.2.1 (upF y 4) (-1))) (phH s h) fl qv (tyT tx (upF (srF y 2) 100)) 2 := (k1).st (Gd_pos (k1).1 (zU_p (k1).1.1.2 (by decide))) (okH_ph _ (k1).2.1)
      refine z_goto Z 258 dL_act_248 (by decide) ?_
      have ha9 : actF (qv 0) s x y = opV (upF y 4) s := by unfold actF; rw [actN_6 (.inl hw9), if_pos hcl9]
      refine z_eqs (OW ct A ((actF (qv 0) s x y).1) (phH s h) fl qv (tyT tx (upF (srF y 2) 100)) 2) _ [zi ((actF (qv 0) s x y).2)] (by rw [ha9] <;> rfl) rfl (by rw [ha9] <;> rfl) ?_
      exact hR _ _ 2 (by decide) dL_act_258
  · refine z_iload_n Z dL_act_26 4 rfl ?_
    refine z_bipush (v := 16) Z dL_act_27 (by decide +kernel) ?_
    refine z_callS0 (rest := []) Z dL_act_29 (zc_L_up l D ct (x) (16) (by omega) (by omega)) (va_cwS 2 Z.1.2.2.2.2 gL_act_L_up rfl rfl rfl (by decide +kernel) ⟨Nat.le_of_ble_eq_true rfl, Nat.le_of_ble_eq_true rfl⟩) rfl (Nat.le_of_ble_eq_true rfl) ⟨Nat.le_of_ble_eq_true rfl, Nat.le_of_ble_eq_true rfl⟩ [zi ((upF x 16 : Nat) : Int)] rfl rfl ?_
    have hu29 := upF_lt x (n := 16) (by omega)
    refine z_top (y := 7) (by omega) ?_
    refine z_tableIn Z 233 dL_act_32 (by omega) (by omega) (by omega) rfl (by decide) ?_
    refine z_aload_n Z dL_act_233 3 rfl ?_
    refine z_iload_n Z dL_act_234 2 rfl ?_
    refine z_callVw (rest := []) Z dL_act_235 5 0 _ _ rfl rfl rfl (zc_X6_position l D ct (A.1 0) (A.1 1) (A.1 2) (A.1 3) (A.1 4) (A.1 5) (A.1 6) (A.1 7) (A.1 8) (A.1 9) (A.1 10) (A.1 11) (s.1) (s.2.1) (s.2.2.1) (s.2.2.2.1) (s.2.2.2.2.1) (s.2.2.2.2.2.1) (s.2.2.2.2.2.2.1) (s.2.2.2.2.2.2.2) (A.1 12) (A.1 13) (h.1) (h.2.1) (A.2.1) (A.2.2.2.1) (h.2.2) (A.2.2.1) (fl) (A.2.2.2.2) (qv) (tyT tx (upF (srF y 2) 100)) (2) (upF y 4) (k1.1.1.1.1) (k1.1.1.1.2.1) (k1.1.1.1.2.2.1) (k1.1.1.1.2.2.2.1) (k1.1.1.2) (k1.1.1.1.2.2.2.2) (k1.2.1.1) (k1.2.1.2) (hA.1) (hA.2) (k1.2.2.1) (k1.2.2.2.1) (k1.2.2.2.2) (hu2)) rfl (cwV 1 Z.1.2.2.2.2 gL_act_X6_position rfl rfl rfl (by decide +kernel) ⟨Nat.le_of_ble_eq_true rfl, Nat.le_of_ble_eq_true rfl⟩) rfl (Nat.le_of_ble_eq_true rfl) ⟨Nat.le_of_ble_eq_true rfl, Nat.le_of_ble_eq_true rfl⟩ (fun _ => OW ct A s h fl qv (tyT tx (upF (srF y 2) 100)) 2) (fun _ => [zi ((s.2.2.2.1) (upF y 4))]) (fun _ => rfl) rfl (fun _ => rfl) (fun _ _ => ?_)
    refine z_bipush (v := -2) Z dL_act_238 (by decide +kernel) ?_
    refine z_icmp_ne Z 251 dL_act_240 (by decide) (by omega) (by omega) (fun h240 => ?_) (fun h240 => ?_)
    · have hop9 : s.2.2.2.1 (upF y 4) ≠ -2 := by omega
      rcases (show paV (upF y 4) s < s.2.2.2.2.1 ∨ paF s.1 s.2.2.2.2.1 (s.2.2.2.1 (upF y 4)) = s.2.2.2.2.1 by have := paV_le (upF y 4) s; unfold paV at this ⊢; omega) with hnx9 | hnx9
      · refine z_iconst (v := 2) Z dL_act_251 rfl ?_
        refine z_aload_n Z dL_act_252 3 rfl ?_
        refine z_iload_n Z dL_act_253 2 rfl ?_
        refine z_callVw (rest := [zi 2]) Z dL_act_254 5 0 _ _ rfl rfl rfl (zc_X6_next_3 l D ct (A.1 0) (A.1 1) (A.1 2) (A.1 3) (A.1 4) (A.1 5) (A.1 6) (A.1 7) (A.1 8) (A.1 9) (A.1 10) (A.1 11) (s.1) (s.2.1) (s.2.2.1) (s.2.2.2.1) (s.2.2.2.2.1) (s.2.2.2.2.2.1) (s.2.2.2.2.2.2.1) (s.2.2.2.2.2.2.2) (A.1 12) (A.1 13) (h.1) (h.2.1) (A.2.1) (A.2.2.2.1) (h.2.2) (A.2.2.1) (fl) (A.2.2.2.2) (qv) (tyT tx (upF (srF y 2) 100)) (2) (upF y 4) (k1.1.1.1.1) (k1.1.1.1.2.1) (k1.1.1.1.2.2.1) (k1.1.1.1.2.2.2.1) (k1.1.1.2) (k1.1.1.1.2.2.2.2) (k1.2.1.1) (k1.2.1.2) (hA.1) (hA.2) (k1.2.2.1) (k1.2.2.2.1) (k1.2.2.2.2) (hu2) (hop9) (hnx9)) rfl (cwV 1 Z.1.2.2.2.2 gL_act_X6_next rfl rfl rfl (by decide +kernel) ⟨Nat.le_of_ble_eq_true rfl, Nat.le_of_ble_eq_true rfl⟩) rfl (Nat.le_of_ble_eq_true rfl) ⟨Nat.le_of_ble_eq_true rfl, Nat.le_of_ble_eq_true rfl⟩ (fun _ => OW ct A (pzS s (zU s.2.2.2.1 (upF y 4) ((s.1 (paF s.1 s.2.2.2.2.1 (s.2.2.2.1 (upF y 4))) : Nat) : Int))) (phH s h) fl qv (tyT tx (upF (srF y 2) 100)) 2) (fun _ => [zi (((s.1) (paF (s.1) (s.2.2.2.2.1) ((s.2.2.2.1) (upF y 4))) % 1000 : Nat) : Int), zi 2]) (fun _ => rfl) rfl (fun _ => rfl) (fun _ _ => ?_)
        refine z_eqs (OW ct A (pzS s (zU s.2.2.2.1 (upF y 4) ((s.1 (paV (upF y 4) s) : Nat) : Int))) (phH s h) fl qv (tyT tx (upF (srF y 2) 100)) 2) _ _ (rfl) rfl rfl ?_
        have k18 : okW (pzS s (zU s.2.2.2.1 (upF y 4) ((s.1 (paV (upF y 4) s) : Nat) : Int))) (phH s h) fl qv (tyT tx (upF (srF y 2) 100)) 2 := (k1).st (Gd_pos (k1).1 (zU_p (k1).1.1.2 (by have := (k1).1.1.1.2.1 (paV (upF y 4) s) (by omega); omega))) (okH_ph _ (k1).2.1)
        refine z_iadd Z dL_act_257 ?_
        refine z_top (y := ((2 + ((s.1) (paF (s.1) (s.2.2.2.2.1) ((s.2.2.2.1) (upF y 4))) % 1000) : Nat) : Int)) (by omega) ?_
        have ha9 : actF (qv 0) s x y = nxV (upF y 4) s := by unfold actF; rw [actN_6 (.inr (.inl hw9)), if_neg hop9]
        have hv9 : nxV (upF y 4) s = (pzS s (zU s.2.2.2.1 (upF y 4) ((s.1 (paV (upF y 4) s) : Nat) : Int)), ((2 + s.1 (paV (upF y 4) s) % 1000 : Nat) : Int)) := if_pos hnx9
        refine z_eqs (OW ct A ((actF (qv 0) s x y).1) (phH s h) fl qv (tyT tx (upF (srF y 2) 100)) 2) _ [zi ((actF (qv 0) s x y).2)] (by rw [ha9, hv9] <;> rfl) rfl (by rw [ha9, hv9] <;> rfl) ?_
        exact hR _ _ 2 (by decide) dL_act_258
      · refine z_iconst (v := 2) Z dL_act_251 rfl ?_
        refine z_aload_n Z dL_act_252 3 rfl ?_
        refine z_iload_n Z dL_act_253 2 rfl ?_
        refine z_callVw (rest := [zi 2]) Z dL_act_254 5 0 _ _ rfl rfl rfl (zc_X6_next l D ct (A.1 0) (A.1 1) (A.1 2) (A.1 3) (A.1 4) (A.1 5) (A.1 6) (A.1 7) (A.1 8) (A.1 9) (A.1 10) (A.1 11) (s.1) (s.2.1) (s.2.2.1) (s.2.2.2.1) (s.2.2.2.2.1) (s.2.2.2.2.2.1) (s.2.2.2.2.2.2.1) (s.2.2.2.2.2.2.2) (A.1 12) (A.1 13) (h.1) (h.2.1) (A.2.1) (A.2.2.2.1) (h.2.2) (A.2.2.1) (fl) (A.2.2.2.2) (qv) (tyT tx (upF (srF y 2) 100)) (2) (upF y 4) (k1.1.1.1.1) (k1.1.1.1.2.1) (k1.1.1.1.2.2.1) (k1.1.1.1.2.2.2.1) (k1.1.1.2) (k1.1.1.1.2.2.2.2) (k1.2.1.1) (k1.2.1.2) (hA.1) (hA.2) (k1.2.2.1) (k1.2.2.2.1) (k1.2.2.2.2) (hu2) (hop9) (hnx9)) rfl (cwV 1 Z.1.2.2.2.2 gL_act_X6_next rfl rfl rfl (by decide +kernel) ⟨Nat.le_of_ble_eq_true rfl, Nat.le_of_ble_eq_true rfl⟩) rfl (Nat.le_of_ble_eq_true rfl) ⟨Nat.le_of_ble_eq_true rfl, Nat.le_of_ble_eq_true rfl⟩ (fun _ => OW ct A s (phH s h) fl qv (tyT tx (upF (srF y 2) 100)) 2) (fun _ => [zi (-2), zi 2]) (fun _ => rfl) rfl (fun _ => rfl) (fun _ _ => ?_)
        have k19 : okW s (phH s h) fl qv (tyT tx (upF (srF y 2) 100)) 2 := (k1).st (k1).1 (okH_ph _ (k1).2.1)
        refine z_iadd Z dL_act_257 ?_
        have ha9 : actF (qv 0) s x y = nxV (upF y 4) s := by unfold actF; rw [actN_6 (.inr (.inl hw9)), if_neg hop9]
        have hv9 : nxV (upF y 4) s = (s, 0) := if_neg (by unfold paV; omega)
        refine z_eqs (OW ct A ((actF (qv 0) s x y).1) (phH s h) fl qv (tyT tx (upF (srF y 2) 100)) 2) _ [zi ((actF (qv 0) s x y).2)] (by rw [ha9, hv9] <;> rfl) rfl (by rw [ha9, hv9] <;> rfl) ?_
        exact hR _ _ 2 (by decide) dL_act_258
    · have hcl9 : s.2.2.2.1 (upF y 4) = -2 := by omega
      refine z_aload_n Z dL_act_243 3 rfl ?_
      refine z_iload_n Z dL_act_244 2 rfl ?_
      refine z_callVw (rest := []) Z dL_act_245 5 0 _ _ rfl rfl rfl (zc_X6_open l D ct (A.1 0) (A.1 1) (A.1 2) (A.1 3) (A.1 4) (A.1 5) (A.1 6) (A.1 7) (A.1 8) (A.1 9) (A.1 10) (A.1 11) (s.1) (s.2.1) (s.2.2.1) (s.2.2.2.1) (s.2.2.2.2.1) (s.2.2.2.2.2.1) (s.2.2.2.2.2.2.1) (s.2.2.2.2.2.2.2) (A.1 12) (A.1 13) (h.1) (h.2.1) (A.2.1) (A.2.2.2.1) (h.2.2) (A.2.2.1) (fl) (A.2.2.2.2) (qv) (tyT tx (upF (srF y 2) 100)) (2) (upF y 4) (k1.1.1.1.1) (k1.1.1.1.2.1) (k1.1.1.1.2.2.1) (k1.1.1.1.2.2.2.1) (k1.1.1.2) (k1.1.1.1.2.2.2.2) (k1.2.1.1) (k1.2.1.2) (hA.1) (hA.2) (k1.2.2.1) (k1.2.2.2.1) (k1.2.2.2.2) (hu2)) rfl (cwV 1 Z.1.2.2.2.2 gL_act_X6_open rfl rfl rfl (by decide +kernel) ⟨Nat.le_of_ble_eq_true rfl, Nat.le_of_ble_eq_true rfl⟩) rfl (Nat.le_of_ble_eq_true rfl) ⟨Nat.le_of_ble_eq_true rfl, Nat.le_of_ble_eq_true rfl⟩ (fun _ => OW ct A (pzS s (zU s.2.2.2.1 (upF y 4) (-1))) (phH s h) fl qv (tyT tx (upF (srF y 2) 100)) 2) (fun _ => [zi ((orF (zU (s.2.2.2.1) (upF y 4) (-1)) 4 : Nat) : Int)]) (fun _ => rfl) rfl (fun _ => rfl) (fun _ _ => ?_)
      have k20 : okW (pzS s (zU s.2.2.2.1 (upF y 4) (-1))) (phH s h) fl qv (tyT tx (upF (srF y 2) 100)) 2 := (k1).st (Gd_pos (k1).1 (zU_p (k1).1.1.2 (by decide))) (okH_ph _ (k1).2.1)
      refine z_goto Z 258 dL_act_248 (by decide) ?_
      have ha9 : actF (qv 0) s x y = opV (upF y 4) s := by unfold actF; rw [actN_6 (.inr (.inl hw9)), if_pos hcl9]
      refine z_eqs (OW ct A ((actF (qv 0) s x y).1) (phH s h) fl qv (tyT tx (upF (srF y 2) 100)) 2) _ [zi ((actF (qv 0) s x y).2)] (by rw [ha9] <;> rfl) rfl (by rw [ha9] <;> rfl) ?_
      exact hR _ _ 2 (by decide) dL_act_258
  · refine z_iload_n Z dL_act_26 4 rfl ?_
    refine z_bipush (v := 16) Z dL_act_27 (by decide +kernel) ?_
    refine z_callS0 (rest := []) Z dL_act_29 (zc_L_up l D ct (x) (16) (by omega) (by omega)) (va_cwS 2 Z.1.2.2.2.2 gL_act_L_up rfl rfl rfl (by decide +kernel) ⟨Nat.le_of_ble_eq_true rfl, Nat.le_of_ble_eq_true rfl⟩) rfl (Nat.le_of_ble_eq_true rfl) ⟨Nat.le_of_ble_eq_true rfl, Nat.le_of_ble_eq_true rfl⟩ [zi ((upF x 16 : Nat) : Int)] rfl rfl ?_
    have hu29 := upF_lt x (n := 16) (by omega)
    refine z_top (y := 8) (by omega) ?_
    refine z_tableIn Z 233 dL_act_32 (by omega) (by omega) (by omega) rfl (by decide) ?_
    refine z_aload_n Z dL_act_233 3 rfl ?_
    refine z_iload_n Z dL_act_234 2 rfl ?_
    refine z_callVw (rest := []) Z dL_act_235 5 0 _ _ rfl rfl rfl (zc_X6_position l D ct (A.1 0) (A.1 1) (A.1 2) (A.1 3) (A.1 4) (A.1 5) (A.1 6) (A.1 7) (A.1 8) (A.1 9) (A.1 10) (A.1 11) (s.1) (s.2.1) (s.2.2.1) (s.2.2.2.1) (s.2.2.2.2.1) (s.2.2.2.2.2.1) (s.2.2.2.2.2.2.1) (s.2.2.2.2.2.2.2) (A.1 12) (A.1 13) (h.1) (h.2.1) (A.2.1) (A.2.2.2.1) (h.2.2) (A.2.2.1) (fl) (A.2.2.2.2) (qv) (tyT tx (upF (srF y 2) 100)) (2) (upF y 4) (k1.1.1.1.1) (k1.1.1.1.2.1) (k1.1.1.1.2.2.1) (k1.1.1.1.2.2.2.1) (k1.1.1.2) (k1.1.1.1.2.2.2.2) (k1.2.1.1) (k1.2.1.2) (hA.1) (hA.2) (k1.2.2.1) (k1.2.2.2.1) (k1.2.2.2.2) (hu2)) rfl (cwV 1 Z.1.2.2.2.2 gL_act_X6_position rfl rfl rfl (by decide +kernel) ⟨Nat.le_of_ble_eq_true rfl, Nat.le_of_ble_eq_true rfl⟩) rfl (Nat.le_of_ble_eq_true rfl) ⟨Nat.le_of_ble_eq_true rfl, Nat.le_of_ble_eq_true rfl⟩ (fun _ => OW ct A s h fl qv (tyT tx (upF (srF y 2) 100)) 2) (fun _ => [zi ((s.2.2.2.1) (upF y 4))]) (fun _ => rfl) rfl (fun _ => rfl) (fun _ _ => ?_)
    refine z_bipush (v := -2) Z dL_act_238 (by decide +kernel) ?_
    refine z_icmp_ne Z 251 dL_act_240 (by decide) (by omega) (by omega) (fun h240 => ?_) (fun h240 => ?_)
    · have hop9 : s.2.2.2.1 (upF y 4) ≠ -2 := by omega
      rcases (show paV (upF y 4) s < s.2.2.2.2.1 ∨ paF s.1 s.2.2.2.2.1 (s.2.2.2.1 (upF y 4)) = s.2.2.2.2.1 by have := paV_le (upF y 4) s; unfold paV at this ⊢; omega) with hnx9 | hnx9
      · refine z_iconst (v := 2) Z dL_act_251 rfl ?_
        refine z_aload_n Z dL_act_252 3 rfl ?_
        refine z_iload_n Z dL_act_253 2 rfl ?_
        refine z_callVw (rest := [zi 2]) Z dL_act_254 5 0 _ _ rfl rfl rfl (zc_X6_next_3 l D ct (A.1 0) (A.1 1) (A.1 2) (A.1 3) (A.1 4) (A.1 5) (A.1 6) (A.1 7) (A.1 8) (A.1 9) (A.1 10) (A.1 11) (s.1) (s.2.1) (s.2.2.1) (s.2.2.2.1) (s.2.2.2.2.1) (s.2.2.2.2.2.1) (s.2.2.2.2.2.2.1) (s.2.2.2.2.2.2.2) (A.1 12) (A.1 13) (h.1) (h.2.1) (A.2.1) (A.2.2.2.1) (h.2.2) (A.2.2.1) (fl) (A.2.2.2.2) (qv) (tyT tx (upF (srF y 2) 100)) (2) (upF y 4) (k1.1.1.1.1) (k1.1.1.1.2.1) (k1.1.1.1.2.2.1) (k1.1.1.1.2.2.2.1) (k1.1.1.2) (k1.1.1.1.2.2.2.2) (k1.2.1.1) (k1.2.1.2) (hA.1) (hA.2) (k1.2.2.1) (k1.2.2.2.1) (k1.2.2.2.2) (hu2) (hop9) (hnx9)) rfl (cwV 1 Z.1.2.2.2.2 gL_act_X6_next rfl rfl rfl (by decide +kernel) ⟨Nat.le_of_ble_eq_true rfl, Nat.le_of_ble_eq_true rfl⟩) rfl (Nat.le_of_ble_eq_true rfl) ⟨Nat.le_of_ble_eq_true rfl, Nat.le_of_ble_eq_true rfl⟩ (fun _ => OW ct A (pzS s (zU s.2.2.2.1 (upF y 4) ((s.1 (paF s.1 s.2.2.2.2.1 (s.2.2.2.1 (upF y 4))) : Nat) : Int))) (phH s h) fl qv (tyT tx (upF (srF y 2) 100)) 2) (fun _ => [zi (((s.1) (paF (s.1) (s.2.2.2.2.1) ((s.2.2.2.1) (upF y 4))) % 1000 : Nat) : Int), zi 2]) (fun _ => rfl) rfl (fun _ => rfl) (fun _ _ => ?_)
        refine z_eqs (OW ct A (pzS s (zU s.2.2.2.1 (upF y 4) ((s.1 (paV (upF y 4) s) : Nat) : Int))) (phH s h) fl qv (tyT tx (upF (srF y 2) 100)) 2) _ _ (rfl) rfl rfl ?_
        have k21 : okW (pzS s (zU s.2.2.2.1 (upF y 4) ((s.1 (paV (upF y 4) s) : Nat) : Int))) (phH s h) fl qv (tyT tx (upF (srF y 2) 100)) 2 := (k1).st (Gd_pos (k1).1 (zU_p (k1).1.1.2 (by have := (k1).1.1.1.2.1 (paV (upF y 4) s) (by omega); omega))) (okH_ph _ (k1).2.1)
        refine z_iadd Z dL_act_257 ?_
        refine z_top (y := ((2 + ((s.1) (paF (s.1) (s.2.2.2.2.1) ((s.2.2.2.1) (upF y 4))) % 1000) : Nat) : Int)) (by omega) ?_
        have ha9 : actF (qv 0) s x y = nxV (upF y 4) s := by unfold actF; rw [actN_6 (.inr (.inr hw9)), if_neg hop9]
        have hv9 : nxV (upF y 4) s = (pzS s (zU s.2.2.2.1 (upF y 4) ((s.1 (paV (upF y 4) s) : Nat) : Int)), ((2 + s.1 (paV (upF y 4) s) % 1000 : Nat) : Int)) := if_pos hnx9
        refine z_eqs (OW ct A ((actF (qv 0) s x y).1) (phH s h) fl qv (tyT tx (upF (srF y 2) 100)) 2) _ [zi ((actF (qv 0) s x y).2)] (by rw [ha9, hv9] <;> rfl) rfl (by rw [ha9, hv9] <;> rfl) ?_
        exact hR _ _ 2 (by decide) dL_act_258
      · refine z_iconst (v := 2) Z dL_act_251 rfl ?_
        refine z_aload_n Z dL_act_252 3 rfl ?_
        refine z_iload_n Z dL_act_253 2 rfl ?_
        refine z_callVw (rest := [zi 2]) Z dL_act_254 5 0 _ _ rfl rfl rfl (zc_X6_next l D ct (A.1 0) (A.1 1) (A.1 2) (A.1 3) (A.1 4) (A.1 5) (A.1 6) (A.1 7) (A.1 8) (A.1 9) (A.1 10) (A.1 11) (s.1) (s.2.1) (s.2.2.1) (s.2.2.2.1) (s.2.2.2.2.1) (s.2.2.2.2.2.1) (s.2.2.2.2.2.2.1) (s.2.2.2.2.2.2.2) (A.1 12) (A.1 13) (h.1) (h.2.1) (A.2.1) (A.2.2.2.1) (h.2.2) (A.2.2.1) (fl) (A.2.2.2.2) (qv) (tyT tx (upF (srF y 2) 100)) (2) (upF y 4) (k1.1.1.1.1) (k1.1.1.1.2.1) (k1.1.1.1.2.2.1) (k1.1.1.1.2.2.2.1) (k1.1.1.2) (k1.1.1.1.2.2.2.2) (k1.2.1.1) (k1.2.1.2) (hA.1) (hA.2) (k1.2.2.1) (k1.2.2.2.1) (k1.2.2.2.2) (hu2) (hop9) (hnx9)) rfl (cwV 1 Z.1.2.2.2.2 gL_act_X6_next rfl rfl rfl (by decide +kernel) ⟨Nat.le_of_ble_eq_true rfl, Nat.le_of_ble_eq_true rfl⟩) rfl (Nat.le_of_ble_eq_true rfl) ⟨Nat.le_of_ble_eq_true rfl, Nat.le_of_ble_eq_true rfl⟩ (fun _ => OW ct A s (phH s h) fl qv (tyT tx (upF (srF y 2) 100)) 2) (fun _ => [zi (-2), zi 2]) (fun _ => rfl) rfl (fun _ => rfl) (fun _ _ => ?_)
        have k22 : okW s (phH s h) fl qv (tyT tx (upF (srF y 2) 100)) 2 := (k1).st (k1).1 (okH_ph _ (k1).2.1)
        refine z_iadd Z dL_act_257 ?_
        have ha9 : actF (qv 0) s x y = nxV (upF y 4) s := by unfold actF; rw [actN_6 (.inr (.inr hw9)), if_neg hop9]
        have hv9 : nxV (upF y 4) s = (s, 0) := if_neg (by unfold paV; omega)
        refine z_eqs (OW ct A ((actF (qv 0) s x y).1) (phH s h) fl qv (tyT tx (upF (srF y 2) 100)) 2) _ [zi ((actF (qv 0) s x y).2)] (by rw [ha9, hv9] <;> rfl) rfl (by rw [ha9, hv9] <;> rfl) ?_
        exact hR _ _ 2 (by decide) dL_act_258
    · have hcl9 : s.2.2.2.1 (upF y 4) = -2 := by omega
      refine z_aload_n Z dL_act_243 3 rfl ?_
      refine z_iload_n Z dL_act_244 2 rfl ?_
      refine z_callVw (rest := []) Z dL_act_245 5 0 _ _ rfl rfl rfl (zc_X6_open l D ct (A.1 0) (A.1 1) (A.1 2) (A.1 3) (A.1 4) (A.1 5) (A.1 6) (A.1 7) (A.1 8) (A.1 9) (A.1 10) (A.1 11) (s.1) (s.2.1) (s.2.2.1) (s.2.2.2.1) (s.2.2.2.2.1) (s.2.2.2.2.2.1) (s.2.2.2.2.2.2.1) (s.2.2.2.2.2.2.2) (A.1 12) (A.1 13) (h.1) (h.2.1) (A.2.1) (A.2.2.2.1) (h.2.2) (A.2.2.1) (fl) (A.2.2.2.2) (qv) (tyT tx (upF (srF y 2) 100)) (2) (upF y 4) (k1.1.1.1.1) (k1.1.1.1.2.1) (k1.1.1.1.2.2.1) (k1.1.1.1.2.2.2.1) (k1.1.1.2) (k1.1.1.1.2.2.2.2) (k1.2.1.1) (k1.2.1.2) (hA.1) (hA.2) (k1.2.2.1) (k1.2.2.2.1) (k1.2.2.2.2) (hu2)) rfl (cwV 1 Z.1.2.2.2.2 gL_act_X6_open rfl rfl rfl (by decide +kernel) ⟨Nat.le_of_ble_eq_true rfl, Nat.le_of_ble_eq_true rfl⟩) rfl (Nat.le_of_ble_eq_true rfl) ⟨Nat.le_of_ble_eq_true rfl, Nat.le_of_ble_eq_true rfl⟩ (fun _ => OW ct A (pzS s (zU s.2.2.2.1 (upF y 4) (-1))) (phH s h) fl qv (tyT tx (upF (srF y 2) 100)) 2) (fun _ => [zi ((orF (zU (s.2.2.2.1) (upF y 4) (-1)) 4 : Nat) : Int)]) (fun _ => rfl) rfl (fun _ => rfl) (fun _ _ => ?_)
      have k23 : okW (pzS s (zU s.2.2.2.1 (upF y 4) (-1))) (phH s h) fl qv (tyT tx (upF (srF y 2) 100)) 2 := (k1).st (Gd_pos (k1).1 (zU_p (k1).1.1.2 (by decide))) (okH_ph _ (k1).2.1)
      refine z_goto Z 258 dL_act_248 (by decide) ?_
      have ha9 : actF (qv 0) s x y = opV (upF y 4) s := by unfold actF; rw [actN_6 (.inr (.inr hw9)), if_pos hcl9]
      refine z_eqs (OW ct A ((actF (qv 0) s x y).1) (phH s h) fl qv (tyT tx (upF (srF y 2) 100)) 2) _ [zi ((actF (qv 0) s x y).2)] (by rw [ha9] <;> rfl) rfl (by rw [ha9] <;> rfl) ?_
      exact hR _ _ 2 (by decide) dL_act_258
  · refine z_iload_n Z dL_act_26 4 rfl ?_
    refine z_bipush (v := 16) Z dL_act_27 (by decide +kernel) ?_
    refine z_callS0 (rest := []) Z dL_act_29 (zc_L_up l D ct (x) (16) (by omega) (by omega)) (va_cwS 2 Z.1.2.2.2.2 gL_act_L_up rfl rfl rfl (by decide +kernel) ⟨Nat.le_of_ble_eq_true rfl, Nat.le_of_ble_eq_true rfl⟩) rfl (Nat.le_of_ble_eq_true rfl) ⟨Nat.le_of_ble_eq_true rfl, Nat.le_of_ble_eq_true rfl⟩ [zi ((upF x 16 : Nat) : Int)] rfl rfl ?_
    have hu29 := upF_lt x (n := 16) (by omega)
    refine z_top (y := 9) (by omega) ?_
    refine z_tableIn Z 259 dL_act_32 (by omega) (by omega) (by omega) rfl (by decide) ?_
    refine z_aload_n Z dL_act_259 3 rfl ?_
    refine z_iload_n Z dL_act_260 2 rfl ?_
    refine z_callVw (rest := []) Z dL_act_261 5 0 _ _ rfl rfl rfl (zc_X6_position l D ct (A.1 0) (A.1 1) (A.1 2) (A.1 3) (A.1 4) (A.1 5) (A.1 6) (A.1 7) (A.1 8) (A.1 9) (A.1 10) (A.1 11) (s.1) (s.2.1) (s.2.2.1) (s.2.2.2.1) (s.2.2.2.2.1) (s.2.2.2.2.2.1) (s.2.2.2.2.2.2.1) (s.2.2.2.2.2.2.2) (A.1 12) (A.1 13) (h.1) (h.2.1) (A.2.1) (A.2.2.2.1) (h.2.2) (A.2.2.1) (fl) (A.2.2.2.2) (qv) (tyT tx (upF (srF y 2) 100)) (2) (upF y 4) (k1.1.1.1.1) (k1.1.1.1.2.1) (k1.1.1.1.2.2.1) (k1.1.1.1.2.2.2.1) (k1.1.1.2) (k1.1.1.1.2.2.2.2) (k1.2.1.1) (k1.2.1.2) (hA.1) (hA.2) (k1.2.2.1) (k1.2.2.2.1) (k1.2.2.2.2) (hu2)) rfl (cwV 1 Z.1.2.2.2.2 gL_act_X6_position rfl rfl rfl (by decide +kernel) ⟨Nat.le_of_ble_eq_true rfl, Nat.le_of_ble_eq_true rfl⟩) rfl (Nat.le_of_ble_eq_true rfl) ⟨Nat.le_of_ble_eq_true rfl, Nat.le_of_ble_eq_true rfl⟩ (fun _ => OW ct A s h fl qv (tyT tx (upF (srF y 2) 100)) 2) (fun _ => [zi ((s.2.2.2.1) (upF y 4))]) (fun _ => rfl) rfl (fun _ => rfl) (fun _ _ => ?_)
    refine z_bipush (v := -2) Z dL_act_264 (by decide +kernel) ?_
    refine z_icmp_ne Z 277 dL_act_266 (by decide) (by omega) (by omega) (fun h266 => ?_) (fun h266 => ?_)
    · have hop9 : s.2.2.2.1 (upF y 4) ≠ -2 := by omega
      refine z_iload_n Z dL_act_277 5 rfl ?_
      refine z_iconst (v := 3) Z dL_act_278 rfl ?_
      refine z_iandX (n := 3) Z dL_act_279 ?_
      have hb279 := anF_le y (n := 3) (by omega)
      refine z_if_ne Z 293 dL_act_280 (by decide) (by omega) (fun h280 => ?_) (fun h280 => ?_)
      · have hb9 : ¬ (anF y 3 = 0) := by omega
        rcases (show paV (upF y 4) s < s.2.2.2.2.1 ∨ paF s.1 s.2.2.2.2.1 (s.2.2.2.1 (upF y 4)) = s.2.2.2.2.1 by have := paV_le (upF y 4) s; unfold paV at this ⊢; omega) with hnx9 | hnx9
        · refine z_iconst (v := 2) Z dL_act_293 rfl ?_
          refine z_aload_n Z dL_act_294 3 rfl ?_
          refine z_iload_n Z dL_act_295 2 rfl ?_
          refine z_callVw (rest := [zi 2]) Z dL_act_296 5 0 _ _ rfl rfl rfl (zc_X6_next_3 l D ct (A.1 0) (A.1 1) (A.1 2) (A.1 3) (A.1 4) (A.1 5) (A.1 6) (A.1 7) (A.1 8) (A.1 9) (A.1 10) (A.1 11) (s.1) (s.2.1) (s.2.2.1) (s.2.2.2.1) (s.2.2.2.2.1) (s.2.2.2.2.2.1) (s.2.2.2.2.2.2.1) (s.2.2.2.2.2.2.2) (A.1 12) (A.1 13) (h.1) (h.2.1) (A.2.1) (A.2.2.2.1) (h.2.2) (A.2.2.1) (fl) (A.2.2.2.2) (qv) (tyT tx (upF (srF y 2) 100)) (2) (upF y 4) (k1.1.1.1.1) (k1.1.1.1.2.1) (k1.1.1.1.2.2.1) (k1.1.1.1.2.2.2.1) (k1.1.1.2) (k1.1.1.1.2.2.2.2) (k1.2.1.1) (k1.2.1.2) (hA.1) (hA.2) (k1.2.2.1) (k1.2.2.2.1) (k1.2.2.2.2) (hu2) (hop9) (hnx9)) rfl (cwV 1 Z.1.2.2.2.2 gL_act_X6_next rfl rfl rfl (by decide +kernel) ⟨Nat.le_of_ble_eq_true rfl, Nat.le_of_ble_eq_true rfl⟩) rfl (Nat.le_of_ble_eq_true rfl) ⟨Nat.le_of_ble_eq_true rfl, Nat.le_of_ble_eq_true rfl⟩ (fun _ => OW ct A (pzS s (zU s.2.2.2.1 (upF y 4) ((s.1 (paF s.1 s.2.2.2.2.1 (s.2.2.2.1 (upF y 4))) : Nat) : Int))) (phH s h) fl qv (tyT tx (upF (srF y 2) 100)) 2) (fun _ => [zi (((s.1) (paF (s.1) (s.2.2.2.2.1) ((s.2.2.2.1) (upF y 4))) % 1000 : Nat) : Int), zi 2]) (fun _ => rfl) rfl (fun _ => rfl) (fun _ _ => ?_)
          refine z_eqs (OW ct A (pzS s (zU s.2.2.2.1 (upF y 4) ((s.1 (paV (upF y 4) s) : Nat) : Int))) (phH s h) fl qv (tyT tx (upF (srF y 2) 100)) 2) _ _ (rfl) rfl rfl ?_
          have k24 : okW (pzS s (zU s.2.2.2.1 (upF y 4) ((s.1 (paV (upF y 4) s) : Nat) : Int))) (phH s h) fl qv (tyT tx (upF (srF y 2) 100)) 2 := (k1).st (Gd_pos (k1).1 (zU_p (k1).1.1.2 (by have := (k1).1.1.1.2.1 (paV (upF y 4) s) (by omega); omega))) (okH_ph _ (k1).2.1)
          refine z_iadd Z dL_act_299 ?_
          refine z_top (y := ((2 + ((s.1) (paF (s.1) (s.2.2.2.2.1) ((s.2.2.2.1) (upF y 4))) % 1000) : Nat) : Int)) (by omega) ?_
          have ha9 : actF (qv 0) s x y = nxV (upF y 4) s := by unfold actF; rw [actN_9 hw9, if_neg hop9, if_neg hb9]
          have hv9 : nxV (upF y 4) s = (pzS s (zU s.2.2.2.1 (upF y 4) ((s.1 (paV (upF y 4) s) : Nat) : Int)), ((2 + s.1 (paV (upF y 4) s) % 1000 : Nat) : Int)) := if_pos hnx9
          refine z_eqs (OW ct A ((actF (qv 0) s x y).1) (phH s h) fl qv (tyT tx (upF (srF y 2) 100)) 2) _ [zi ((actF (qv 0) s x y).2)] (by rw [ha9, hv9] <;> rfl) rfl (by rw [ha9, hv9] <;> rfl) ?_
          exact hR _ _ 2 (by decide) dL_act_300
        · refine z_iconst (v := 2) Z dL_act_293 rfl ?_
          refine z_aload_n Z dL_act_294 3 rfl ?_
          refine z_iload_n Z dL_act_295 2 rfl ?_
          refine z_callVw (rest := [zi 2]) Z dL_act_296 5 0 _ _ rfl rfl rfl (zc_X6_next l D ct (A.1 0) (A.1 1) (A.1 2) (A.1 3) (A.1 4) (A.1 5) (A.1 6) (A.1 7) (A.1 8) (A.1 9) (A.1 10) (A.1 11) (s.1) (s.2.1) (s.2.2.1) (s.2.2.2.1) (s.2.2.2.2.1) (s.2.2.2.2.2.1) (s.2.2.2.2.2.2.1) (s.2.2.2.2.2.2.2) (A.1 12) (A.1 13) (h.1) (h.2.1) (A.2.1) (A.2.2.2.1) (h.2.2) (A.2.2.1) (fl) (A.2.2.2.2) (qv) (tyT tx (upF (srF y 2) 100)) (2) (upF y 4) (k1.1.1.1.1) (k1.1.1.1.2.1) (k1.1.1.1.2.2.1) (k1.1.1.1.2.2.2.1) (k1.1.1.2) (k1.1.1.1.2.2.2.2) (k1.2.1.1) (k1.2.1.2) (hA.1) (hA.2) (k1.2.2.1) (k1.2.2.2.1) (k1.2.2.2.2) (hu2) (hop9) (hnx9)) rfl (cwV 1 Z.1.2.2.2.2 gL_act_X6_next rfl rfl rfl (by decide +kernel) ⟨Nat.le_of_ble_eq_true rfl, Nat.le_of_ble_eq_true rfl⟩) rfl (Nat.le_of_ble_eq_true rfl) ⟨Nat.le_of_ble_eq_true rfl, Nat.le_of_ble_eq_true rfl⟩ (fun _ => OW ct A s (phH s h) fl qv (tyT tx (upF (srF y 2) 100)) 2) (fun _ => [zi (-2), zi 2]) (fun _ => rfl) rfl (fun _ => rfl) (fun _ _ => ?_)
          have k25 : okW s (phH s h) fl qv (tyT tx (upF (srF y 2) 100)) 2 := (k1).st (k1).1 (okH_ph _ (k1).2.1)
          refine z_iadd Z dL_act_299 ?_
          have ha9 : actF (qv 0) s x y = nxV (upF y 4) s := by unfold actF; rw [actN_9 hw9, if_neg hop9, if_neg hb9]
          have hv9 : nxV (upF y 4) s = (s, 0) := if_neg (by unfold paV; omega)
          refine z_eqs (OW ct A ((actF (qv 0) s x y).1) (phH s h) fl qv (tyT tx (upF (srF y 2) 100)) 2) _ [zi ((actF (qv 0) s x y).2)] (by rw [ha9, hv9] <;> rfl) rfl (by rw [ha9, hv9] <;> rfl) ?_
          exact hR _ _ 2 (by decide) dL_act_300
      · have hb9 : anF y 3 = 0 := by omega
        refine z_iconst (v := 1) Z dL_act_283 rfl ?_
        refine z_aload_n Z dL_act_284 3 rfl ?_
        refine z_iload_n Z dL_act_285 2 rfl ?_
        refine z_callVw (rest := [zi 1]) Z dL_act_286 5 0 _ _ rfl rfl rfl (zc_X6_close l D ct (A.1 0) (A.1 1) (A.1 2) (A.1 3) (A.1 4) (A.1 5) (A.1 6) (A.1 7) (A.1 8) (A.1 9) (A.1 10) (A.1 11) (s.1) (s.2.1) (s.2.2.1) (s.2.2.2.1) (s.2.2.2.2.1) (s.2.2.2.2.2.1) (s.2.2.2.2.2.2.1) (s.2.2.2.2.2.2.2) (A.1 12) (A.1 13) (h.1) (h.2.1) (A.2.1) (A.2.2.2.1) (h.2.2) (A.2.2.1) (fl) (A.2.2.2.2) (qv) (tyT tx (upF (srF y 2) 100)) (2) (upF y 4) (k1.1.1.1.1) (k1.1.1.1.2.1) (k1.1.1.1.2.2.1) (k1.1.1.1.2.2.2.1) (k1.1.1.2) (k1.1.1.1.2.2.2.2) (k1.2.1.1) (k1.2.1.2) (hA.1) (hA.2) (k1.2.2.1) (k1.2.2.2.1) (k1.2.2.2.2) (hu2) (hop9)) rfl (cwV 1 Z.1.2.2.2.2 gL_act_X6_close rfl rfl rfl (by decide +kernel) ⟨Nat.le_of_ble_eq_true rfl, Nat.le_of_ble_eq_true rfl⟩) rfl (Nat.le_of_ble_eq_true rfl) ⟨Nat.le_of_ble_eq_true rfl, Nat.le_of_ble_eq_true rfl⟩ (fun _ => OW ct A (pzS s (zU s.2.2.2.1 (upF y 4) (-2))) (phH s h) fl qv (tyT tx (upF (srF y 2) 100)) 2) (fun _ => [zi ((s.2.2.2.1) (upF y 4)), zi 1]) (fun _ => rfl) rfl (fun _ => rfl) (fun _ _ => ?_)
        have k26 : okW (pzS s (zU s.2.2.2.1 (upF y 4) (-2))) (phH s h) fl qv (tyT tx (upF (srF y 2) 100)) 2 := (k1).st (Gd_pos (k1).1 (zU_p (k1).1.1.2 (by decide))) (okH_ph _ (k1).2.1)
        refine z_iadd Z dL_act_289 ?_
        refine z_goto Z 300 dL_act_290 (by decide) ?_
        have ha9 : actF (qv 0) s x y = clV (upF y 4) s := by unfold actF; rw [actN_9 hw9, if_neg hop9, if_pos hb9]
        refine z_eqs (OW ct A ((actF (qv 0) s x y).1) (phH s h) fl qv (tyT tx (upF (srF y 2) 100)) 2) _ [zi ((actF (qv 0) s x y).2)] (by rw [ha9] <;> rfl) rfl (by rw [ha9] <;> rfl) ?_
        exact hR _ _ 2 (by decide) dL_act_300
    · have hcl9 : s.2.2.2.1 (upF y 4) = -2 := by omega
      refine z_aload_n Z dL_act_269 3 rfl ?_
      refine z_iload_n Z dL_act_270 2 rfl ?_
      refine z_callVw (rest := []) Z dL_act_271 5 0 _ _ rfl rfl rfl (zc_X6_open l D ct (A.1 0) (A.1 1) (A.1 2) (A.1 3) (A.1 4) (A.1 5) (A.1 6) (A.1 7) (A.1 8) (A.1 9) (A.1 10) (A.1 11) (s.1) (s.2.1) (s.2.2.1) (s.2.2.2.1) (s.2.2.2.2.1) (s.2.2.2.2.2.1) (s.2.2.2.2.2.2.1) (s.2.2.2.2.2.2.2) (A.1 12) (A.1 13) (h.1) (h.2.1) (A.2.1) (A.2.2.2.1) (h.2.2) (A.2.2.1) (fl) (A.2.2.2.2) (qv) (tyT tx (upF (srF y 2) 100)) (2) (upF y 4) (k1.1.1.1.1) (k1.1.1.1.2.1) (k1.1.1.1.2.2.1) (k1.1.1.1.2.2.2.1) (k1.1.1.2) (k1.1.1.1.2.2.2.2) (k1.2.1.1) (k1.2.1.2) (hA.1) (hA.2) (k1.2.2.1) (k1.2.2.2.1) (k1.2.2.2.2) (hu2)) rfl (cwV 1 Z.1.2.2.2.2 gL_act_X6_open rfl rfl rfl (by decide +kernel) ⟨Nat.le_of_ble_eq_true rfl, Nat.le_of_ble_eq_true rfl⟩) rfl (Nat.le_of_ble_eq_true rfl) ⟨Nat.le_of_ble_eq_true rfl, Nat.le_of_ble_eq_true rfl⟩ (fun _ => OW ct A (pzS s (zU s.2.2.2.1 (upF y 4) (-1))) (phH s h) fl qv (tyT tx (upF (srF y 2) 100)) 2) (fun _ => [zi ((orF (zU (s.2.2.2.1) (upF y 4) (-1)) 4 : Nat) : Int)]) (fun _ => rfl) rfl (fun _ => rfl) (fun _ _ => ?_)
      have k27 : okW (pzS s (zU s.2.2.2.1 (upF y 4) (-1))) (phH s h) fl qv (tyT tx (upF (srF y 2) 100)) 2 := (k1).st (Gd_pos (k1).1 (zU_p (k1).1.1.2 (by decide))) (okH_ph _ (k1).2.1)
      refine z_goto Z 300 dL_act_274 (by decide) ?_
      have ha9 : actF (qv 0) s x y = opV (upF y 4) s := by unfold actF; rw [actN_9 hw9, if_pos hcl9]
      refine z_eqs (OW ct A ((actF (qv 0) s x y).1) (phH s h) fl qv (tyT tx (upF (srF y 2) 100)) 2) _ [zi ((actF (qv 0) s x y).2)] (by rw [ha9] <;> rfl) rfl (by rw [ha9] <;> rfl) ?_
      exact hR _ _ 2 (by decide) dL_act_300
  · refine z_iload_n Z dL_act_26 4 rfl ?_
    refine z_bipush (v := 16) Z dL_act_27 (by decide +kernel) ?_
    refine z_callS0 (rest := []) Z dL_act_29 (zc_L_up l D ct (x) (16) (by omega) (by omega)) (va_cwS 2 Z.1.2.2.2.2 gL_act_L_up rfl rfl rfl (by decide +kernel) ⟨Nat.le_of_ble_eq_true rfl, Nat.le_of_ble_eq_true rfl⟩) rfl (Nat.le_of_ble_eq_true rfl) ⟨Nat.le_of_ble_eq_true rfl, Nat.le_of_ble_eq_true rfl⟩ [zi ((upF x 16 : Nat) : Int)] rfl rfl ?_
    have hu29 := upF_lt x (n := 16) (by omega)
    refine z_top (y := 10) (by omega) ?_
    refine z_tableIn Z 301 dL_act_32 (by omega) (by omega) (by omega) rfl (by decide) ?_
    refine z_iload_n Z dL_act_301 5 rfl ?_
    refine z_bipush (v := 7) Z dL_act_302 (by decide +kernel) ?_
    refine z_iandX (n := 7) Z dL_act_304 ?_
    have hb304 := anF_le y (n := 7) (by omega)
    refine z_if_ne Z 316 dL_act_305 (by decide) (by omega) (fun h305 => ?_) (fun h305 => ?_)
    · have hb9 : ¬ (anF y 7 = 0) := by omega
      refine z_aload_n Z dL_act_316 3 rfl ?_
      refine z_iload_n Z dL_act_317 2 rfl ?_
      refine z_callVw (rest := []) Z dL_act_318 5 0 _ _ rfl rfl rfl (zc_X6_open l D ct (A.1 0) (A.1 1) (A.1 2) (A.1 3) (A.1 4) (A.1 5) (A.1 6) (A.1 7) (A.1 8) (A.1 9) (A.1 10) (A.1 11) (s.1) (s.2.1) (s.2.2.1) (s.2.2.2.1) (s.2.2.2.2.1) (s.2.2.2.2.2.1) (s.2.2.2.2.2.2.1) (s.2.2.2.2.2.2.2) (A.1 12) (A.1 13) (h.1) (h.2.1) (A.2.1) (A.2.2.2.1) (h.2.2) (A.2.2.1) (fl) (A.2.2.2.2) (qv) (tyT tx (upF (srF y 2) 100)) (2) (upF y 4) (k1.1.1.1.1) (k1.1.1.1.2.1) (k1.1.1.1.2.2.1) (k1.1.1.1.2.2.2.1) (k1.1.1.2) (k1.1.1.1.2.2.2.2) (k1.2.1.1) (k1.2.1.2) (hA.1) (hA.2) (k1.2.2.1) (k1.2.2.2.1) (k1.2.2.2.2) (hu2)) rfl (cwV 1 Z.1.2.2.2.2 gL_act_X6_open rfl rfl rfl (by decide +kernel) ⟨Nat.le_of_ble_eq_true rfl, Nat.le_of_ble_eq_true rfl⟩) rfl (Nat.le_of_ble_eq_true rfl) ⟨Nat.le_of_ble_eq_true rfl, Nat.le_of_ble_eq_true rfl⟩ (fun _ => OW ct A (pzS s (zU s.2.2.2.1 (upF y 4) (-1))) (phH s h) fl qv (tyT tx (upF (srF y 2) 100)) 2) (fun _ => [zi ((orF (zU (s.2.2.2.1) (upF y 4) (-1)) 4 : Nat) : Int)]) (fun _ => rfl) rfl (fun _ => rfl) (fun _ _ => ?_)
      have k28 : okW (pzS s (zU s.2.2.2.1 (upF y 4) (-1))) (phH s h) fl qv (tyT tx (upF (srF y 2) 100)) 2 := (k1).st (Gd_pos (k1).1 (zU_p (k1).1.1.2 (by decide))) (okH_ph _ (k1).2.1)
      have ha9 : actF (qv 0) s x y = opV (upF y 4) s := by unfold actF; rw [actN_10 hw9, if_neg hb9]
      refine z_eqs (OW ct A ((actF (qv 0) s x y).1) (phH s h) fl qv (tyT tx (upF (srF y 2) 100)) 2) _ [zi ((actF (qv 0) s x y).2)] (by rw [ha9] <;> rfl) rfl (by rw [ha9] <;> rfl) ?_
      exact hR _ _ 2 (by decide) dL_act_321
    · have hb9 : anF y 7 = 0 := by omega
      refine z_aload_n Z dL_act_308 3 rfl ?_
      refine z_iconst (v := 0) Z dL_act_309 rfl ?_
      refine z_callVw (rest := []) Z dL_act_310 5 0 _ _ rfl rfl rfl (zc_X6_restore l D ct (A.1 0) (A.1 1) (A.1 2) (A.1 3) (A.1 4) (A.1 5) (A.1 6) (A.1 7) (A.1 8) (A.1 9) (A.1 10) (A.1 11) (s.1) (s.2.1) (s.2.2.1) (s.2.2.2.1) (s.2.2.2.2.1) (s.2.2.2.2.2.1) (s.2.2.2.2.2.2.1) (s.2.2.2.2.2.2.2) (A.1 12) (A.1 13) (h.1) (h.2.1) (A.2.1) (A.2.2.2.1) (h.2.2) (A.2.2.1) (fl) (A.2.2.2.2) (qv) (tyT tx (upF (srF y 2) 100)) (2) (0) (k1.1.1.1.1) (k1.1.1.1.2.1) (k1.1.1.1.2.2.1) (k1.1.1.1.2.2.2.1) (k1.1.1.2) (k1.1.1.1.2.2.2.2) (k1.2.1.1) (k1.2.1.2) (hA.1) (hA.2) (k1.2.2.1) (k1.2.2.2.1) (k1.2.2.2.2) (by first | assumption | omega) (hf1)) rfl (cwV 1 Z.1.2.2.2.2 gL_act_X6_restore rfl rfl rfl (by decide +kernel) ⟨Nat.le_of_ble_eq_true rfl, Nat.le_of_ble_eq_true rfl⟩) rfl (Nat.le_of_ble_eq_true rfl) ⟨Nat.le_of_ble_eq_true rfl, Nat.le_of_ble_eq_true rfl⟩ (fun _ => OW ct A (qv 0) (phH s h) fl qv (tyT tx (upF (srF y 2) 100)) 2) (fun _ => [zi (((qv 0).2.2.2.2.1 : Nat) : Int)]) (fun _ => rfl) rfl (fun _ => rfl) (fun _ _ => ?_)
      have k29 : okW (qv 0) (phH s h) fl qv (tyT tx (upF (srF y 2) 100)) 2 := (k1).st hq (okH_ph _ (k1).2.1)
      refine z_goto Z 321 dL_act_313 (by decide) ?_
      have ha9 : actF (qv 0) s x y = (qv 0, (((qv 0).2.2.2.2.1 : Nat) : Int)) := by unfold actF; rw [actN_10 hw9, if_pos hb9]
      refine z_eqs (OW ct A ((actF (qv 0) s x y).1) (phH s h) fl qv (tyT tx (upF (srF y 2) 100)) 2) _ [zi ((actF (qv 0) s x y).2)] (by rw [ha9] <;> rfl) rfl (by rw [ha9] <;> rfl) ?_
      exact hR _ _ 2 (by decide) dL_act_321
  · refine z_iload_n Z dL_act_26 4 rfl ?_
    refine z_bipush (v := 16) Z dL_act_27 (by decide +kernel) ?_
    refine z_callS0 (rest := []) Z dL_act_29 (zc_L_up l D ct (x) (16) (by omega) (by omega)) (va_cwS 2 Z.1.2.2.2.2 gL_act_L_up rfl rfl rfl (by decide +kernel) ⟨Nat.le_of_ble_eq_true rfl, Nat.le_of_ble_eq_true rfl⟩) rfl (Nat.le_of_ble_eq_true rfl) ⟨Nat.le_of_ble_eq_true rfl, Nat.le_of_ble_eq_true rfl⟩ [zi ((upF x 16 : Nat) : Int)] rfl rfl ?_
    have hu29 := upF_lt x (n := 16) (by omega)
    refine z_tableOut Z 322 dL_act_32 (by omega) (by omega) (by decide) ?_
    refine z_iload Z dL_act_322 1 rfl ?_
    refine z_if_ge Z 332 dL_act_324 (by decide) (by omega) (fun h324 => ?_) (fun h324 => ?_)
    · refine z_iload Z dL_act_332 0 rfl ?_
      refine z_if_lt Z 346 dL_act_334 (by decide) (by omega) (fun h334 => ?_) (fun h334 => ?_)
      · have hfo9 : (foF (nmP s.2.1 (n2F (upF (srF y 2) 100))) s.2.2.2.2.1) = -1 := fdV_lt (by omega)
        refine z_aload_n Z dL_act_346 3 rfl ?_
        refine z_callVw (rest := []) Z dL_act_347 5 0 _ _ rfl rfl rfl (zc_X6_entries l D ct (A.1 0) (A.1 1) (A.1 2) (A.1 3) (A.1 4) (A.1 5) (A.1 6) (A.1 7) (A.1 8) (A.1 9) (A.1 10) (A.1 11) (s.1) (s.2.1) (s.2.2.1) (s.2.2.2.1) (s.2.2.2.2.1) (s.2.2.2.2.2.1) (s.2.2.2.2.2.2.1) (s.2.2.2.2.2.2.2) (A.1 12) (A.1 13) (h.1) (h.2.1) (A.2.1) (A.2.2.2.1) (h.2.2) (A.2.2.1) (fl) (A.2.2.2.2) (qv) (tyT tx (upF (srF y 2) 100)) (2) (k1.1.1.1.1) (k1.1.1.1.2.1) (k1.1.1.1.2.2.1) (k1.1.1.1.2.2.2.1) (k1.1.1.2) (k1.1.1.1.2.2.2.2) (k1.2.1.1) (k1.2.1.2) (hA.1) (hA.2) (k1.2.2.1) (k1.2.2.2.1) (k1.2.2.2.2)) rfl (cwV 0 Z.1.2.2.2.2 gL_act_X6_entries rfl rfl rfl (by decide +kernel) ⟨Nat.le_of_ble_eq_true rfl, Nat.le_of_ble_eq_true rfl⟩) rfl (Nat.le_of_ble_eq_true rfl) ⟨Nat.le_of_ble_eq_true rfl, Nat.le_of_ble_eq_true rfl⟩ (fun _ => OW ct A s h fl qv (tyT tx (upF (srF y 2) 100)) 2) (fun _ => [zi (((s.2.2.2.2.1) : Nat) : Int)]) (fun _ => rfl) rfl (fun _ => rfl) (fun _ _ => ?_)
        refine z_bipush (v := 40) Z dL_act_350 (by decide +kernel) ?_
        refine z_icmp_ne Z 367 dL_act_352 (by decide) (by omega) (by omega) (fun h352 => ?_) (fun h352 => ?_)
        · refine z_aload_n Z dL_act_367 3 rfl ?_
          refine z_callVw (rest := []) Z dL_act_368 5 0 _ _ rfl rfl rfl (zc_X6_add l D ct (A.1 0) (A.1 1) (A.1 2) (A.1 3) (A.1 4) (A.1 5) (A.1 6) (A.1 7) (A.1 8) (A.1 9) (A.1 10) (A.1 11) (s.1) (s.2.1) (s.2.2.1) (s.2.2.2.1) (s.2.2.2.2.1) (s.2.2.2.2.2.1) (s.2.2.2.2.2.2.1) (s.2.2.2.2.2.2.2) (A.1 12) (A.1 13) (h.1) (h.2.1) (A.2.1) (A.2.2.2.1) (h.2.2) (A.2.2.1) (fl) (A.2.2.2.2) (qv) (tyT tx (upF (srF y 2) 100)) (2) (k1.1.1.1.1) (k1.1.1.1.2.1) (k1.1.1.1.2.2.1) (k1.1.1.1.2.2.2.1) (k1.1.1.2) (k1.1.1.1.2.2.2.2) (k1.2.1.1) (k1.2.1.2) (hA.1) (hA.2) (k1.2.2.1) (k1.2.2.2.1) (k1.2.2.2.2) (nb_ty1 _ _) (⟨by omega, hids, by rw [nb_ty]; exact hfo9⟩)) rfl (cwV 0 Z.1.2.2.2.2 gL_act_X6_add rfl rfl rfl (by decide +kernel) ⟨Nat.le_of_ble_eq_true rfl, Nat.le_of_ble_eq_true rfl⟩) rfl (Nat.le_of_ble_eq_true rfl) ⟨Nat.le_of_ble_eq_true rfl, Nat.le_of_ble_eq_true rfl⟩ (fun _ => OW ct A (mkS (nbF (tyT tx (upF (srF y 2) 100)) 0 2) s) (phH s h) fl qv (tyT tx (upF (srF y 2) 100)) 0) (fun _ => [zi (((s.2.2.2.2.2.2.2) : Nat) : Int)]) (fun _ => rfl) rfl (fun _ => rfl) (fun _ _ => ?_)
          refine z_eqs (OW ct A (mkS (n2F (upF (srF y 2) 100)) s) (phH s h) fl qv (tyT tx (upF (srF y 2) 100)) 0) _ _ (by rw [nb_ty] <;> rfl) rfl rfl ?_
          have k30 : okW (mkS (n2F (upF (srF y 2) 100)) s) (phH s h) fl qv (tyT tx (upF (srF y 2) 100)) 0 := (k1).st0 (Gd_mk (k1).1 (by omega) hids (n2F_lt _) (n2F_l _)).1 (okH_ph _ (k1).2.1)
          have ha9 : actF (qv 0) s x y = adV (n2F (upF (srF y 2) 100)) s := by unfold actF; rw [actN_d hw9, if_neg (fun z => z hfo9), if_neg (by omega)]
          refine z_eqs (OW ct A ((actF (qv 0) s x y).1) (phH s h) fl qv (tyT tx (upF (srF y 2) 100)) 0) _ [zi ((actF (qv 0) s x y).2)] (by rw [ha9] <;> rfl) rfl (by rw [ha9] <;> rfl) ?_
          exact hR _ _ 0 (by decide) dL_act_371
        · refine z_aload_n Z dL_act_355 3 rfl ?_
          refine z_aload_n Z dL_act_356 3 rfl ?_
          refine z_iconst (v := 0) Z dL_act_357 rfl ?_
          refine z_callVw (rest := [.ref (A.1 0)]) Z dL_act_358 5 0 _ _ rfl rfl rfl (zc_X6_idAt l D ct (A.1 0) (A.1 1) (A.1 2) (A.1 3) (A.1 4) (A.1 5) (A.1 6) (A.1 7) (A.1 8) (A.1 9) (A.1 10) (A.1 11) (s.1) (s.2.1) (s.2.2.1) (s.2.2.2.1) (s.2.2.2.2.1) (s.2.2.2.2.2.1) (s.2.2.2.2.2.2.1) (s.2.2.2.2.2.2.2) (A.1 12) (A.1 13) (h.1) (h.2.1) (A.2.1) (A.2.2.2.1) (h.2.2) (A.2.2.1) (fl) (A.2.2.2.2) (qv) (tyT tx (upF (srF y 2) 100)) (2) (0) (k1.1.1.1.1) (k1.1.1.1.2.1) (k1.1.1.1.2.2.1) (k1.1.1.1.2.2.2.1) (k1.1.1.2) (k1.1.1.1.2.2.2.2) (k1.2.1.1) (k1.2.1.2) (hA.1) (hA.2) (k1.2.2.1) (k1.2.2.2.1) (k1.2.2.2.2) (by first | assumption | omega)) rfl (cwV 1 Z.1.2.2.2.2 gL_act_X6_idAt rfl rfl rfl (by decide +kernel) ⟨Nat.le_of_ble_eq_true rfl, Nat.le_of_ble_eq_true rfl⟩) rfl (Nat.le_of_ble_eq_true rfl) ⟨Nat.le_of_ble_eq_true rfl, Nat.le_of_ble_eq_true rfl⟩ (fun _ => OW ct A s h fl qv (tyT tx (upF (srF y 2) 100)) 2) (fun _ => [zi (if 0 < (s.2.2.2.2.1) then (((s.1) 0 % 1000 : Nat) : Int) else -2), .ref (A.1 0)]) (fun _ => rfl) rfl (fun _ => rfl) (fun _ _ => ?_)
          have hid9 := fo_id k.1 (k := 0) (by omega)
          refine z_top (y := ((s.1 0 % 1000 : Nat) : Int)) (by rw [if_pos (by omega)]) ?_
          refine z_callVw (rest := []) Z dL_act_361 5 0 _ _ rfl rfl rfl (zc_X6_remove l D ct (A.1 0) (A.1 1) (A.1 2) (A.1 3) (A.1 4) (A.1 5) (A.1 6) (A.1 7) (A.1 8) (A.1 9) (A.1 10) (A.1 11) (s.1) (s.2.1) (s.2.2.1) (s.2.2.2.1) (s.2.2.2.2.1) (s.2.2.2.2.2.1) (s.2.2.2.2.2.2.1) (s.2.2.2.2.2.2.2) (A.1 12) (A.1 13) (h.1) (h.2.1) (A.2.1) (A.2.2.2.1) (h.2.2) (A.2.2.1) (fl) (A.2.2.2.2) (qv) (tyT tx (upF (srF y 2) 100)) (2) (((s.1 0 % 1000 : Nat) : Int)) (k1.1.1.1.1) (k1.1.1.1.2.1) (k1.1.1.1.2.2.1) (k1.1.1.1.2.2.2.1) (k1.1.1.2) (k1.1.1.1.2.2.2.2) (k1.2.1.1) (k1.2.1.2) (hA.1) (hA.2) (k1.2.2.1) (k1.2.2.2.1) (k1.2.2.2.2) (by first | assumption | omega) (by rw [hid9]; omega)) rfl (cwV 1 Z.1.2.2.2.2 gL_act_X6_remove rfl rfl rfl (by decide +kernel) ⟨Nat.le_of_ble_eq_true rfl, Nat.le_of_ble_eq_true rfl⟩) rfl (Nat.le_of_ble_eq_true rfl) ⟨Nat.le_of_ble_eq_true rfl, Nat.le_of_ble_eq_true rfl⟩ (fun _ => OW ct A (rmS (foF (idP s.1 ((s.1 0 % 1000 : Nat) : Int)) s.2.2.2.2.1).toNat s) (phH s h) fl qv (tyT tx (upF (srF y 2) 100)) 2) (fun _ => [zi (((s.2.2.2.2.1) - 1 : Nat) : Int)]) (fun _ => rfl) rfl (fun _ => rfl) (fun _ _ => ?_)
          refine z_eqs (OW ct A (rmS 0 s) (phH s h) fl qv (tyT tx (upF (srF y 2) 100)) 2) _ _ (by rw [hid9] <;> rfl) rfl rfl ?_
          have k31 : okW (rmS 0 s) (phH s h) fl qv (tyT tx (upF (srF y 2) 100)) 2 := (k1).st (Gd_rm (k1).1 (by omega)).1 (okH_ph _ (k1).2.1)
          refine z_goto Z 371 dL_act_364 (by decide) ?_
          have ha9 : actF (qv 0) s x y = rvV 0 s := by unfold actF; rw [actN_d hw9, if_neg (fun z => z hfo9), if_pos (by omega)]
          refine z_eqs (OW ct A ((actF (qv 0) s x y).1) (phH s h) fl qv (tyT tx (upF (srF y 2) 100)) 2) _ [zi ((actF (qv 0) s x y).2)] (by rw [ha9] <;> rfl) rfl (by rw [ha9] <;> rfl) ?_
          exact hR _ _ 2 (by decide) dL_act_371
      · have hfo9 : (foF (nmP s.2.1 (n2F (upF (srF y 2) 100))) s.2.2.2.2.1) ≠ -1 := fdV_ge (by omega)
        have hpl9 := fo_place (s := s) (nm := (n2F (upF (srF y 2) 100))) hfo9
        have hid9 := fo_id k.1 (k := (foF (nmP s.2.1 (n2F (upF (srF y 2) 100))) s.2.2.2.2.1).toNat) hpl9
        refine z_aload_n Z dL_act_337 3 rfl ?_
        refine z_iload Z dL_act_338 0 rfl ?_
        refine z_top (y := ((s.1 ((foF (nmP s.2.1 (n2F (upF (srF y 2) 100))) s.2.2.2.2.1).toNat) % 1000 : Nat) : Int)) ((fdV_yes hfo9).symm) ?_
        refine z_callVw (rest := []) Z dL_act_340 5 0 _ _ rfl rfl rfl (zc_X6_remove l D ct (A.1 0) (A.1 1) (A.1 2) (A.1 3) (A.1 4) (A.1 5) (A.1 6) (A.1 7) (A.1 8) (A.1 9) (A.1 10) (A.1 11) (s.1) (s.2.1) (s.2.2.1) (s.2.2.2.1) (s.2.2.2.2.1) (s.2.2.2.2.2.1) (s.2.2.2.2.2.2.1) (s.2.2.2.2.2.2.2) (A.1 12) (A.1 13) (h.1) (h.2.1) (A.2.1) (A.2.2.2.1) (h.2.2) (A.2.2.1) (fl) (A.2.2.2.2) (qv) (tyT tx (upF (srF y 2) 100)) (2) (((s.1 ((foF (nmP s.2.1 (n2F (upF (srF y 2) 100))) s.2.2.2.2.1).toNat) % 1000 : Nat) : Int)) (k1.1.1.1.1) (k1.1.1.1.2.1) (k1.1.1.1.2.2.1) (k1.1.1.1.2.2.2.1) (k1.1.1.2) (k1.1.1.1.2.2.2.2) (k1.2.1.1) (k1.2.1.2) (hA.1) (hA.2) (k1.2.2.1) (k1.2.2.2.1) (k1.2.2.2.2) (by first | assumption | omega) (by rw [hid9]; omega)) rfl (cwV 1 Z.1.2.2.2.2 gL_act_X6_remove rfl rfl rfl (by decide +kernel) ⟨Nat.le_of_ble_eq_true rfl, Nat.le_of_ble_eq_true rfl⟩) rfl (Nat.le_of_ble_eq_true rfl) ⟨Nat.le_of_ble_eq_true rfl, Nat.le_of_ble_eq_true rfl⟩ (fun _ => OW ct A (rmS (foF (idP s.1 ((s.1 ((foF (nmP s.2.1 (n2F (upF (srF y 2) 100))) s.2.2.2.2.1).toNat) % 1000 : Nat) : Int)) s.2.2.2.2.1).toNat s) (phH s h) fl qv (tyT tx (upF (srF y 2) 100)) 2) (fun _ => [zi (((s.2.2.2.2.1) - 1 : Nat) : Int)]) (fun _ => rfl) rfl (fun _ => rfl) (fun _ _ => ?_)
        refine z_eqs (OW ct A (rmS ((foF (nmP s.2.1 (n2F (upF (srF y 2) 100))) s.2.2.2.2.1).toNat) s) (phH s h) fl qv (tyT tx (upF (srF y 2) 100)) 2) _ _ (by rw [hid9] <;> rfl) rfl rfl ?_
        have k32 : okW (rmS ((foF (nmP s.2.1 (n2F (upF (srF y 2) 100))) s.2.2.2.2.1).toNat) s) (phH s h) fl qv (tyT tx (upF (srF y 2) 100)) 2 := (k1).st (Gd_rm (k1).1 (by omega)).1 (okH_ph _ (k1).2.1)
        refine z_goto Z 371 dL_act_343 (by decide) ?_
        have ha9 : actF (qv 0) s x y = rvV ((foF (nmP s.2.1 (n2F (upF (srF y 2) 100))) s.2.2.2.2.1).toNat) s := by unfold actF; rw [actN_d hw9, if_pos hfo9]
        refine z_eqs (OW ct A ((actF (qv 0) s x y).1) (phH s h) fl qv (tyT tx (upF (srF y 2) 100)) 2) _ [zi ((actF (qv 0) s x y).2)] (by rw [ha9] <;> rfl) rfl (by rw [ha9] <;> rfl) ?_
        exact hR _ _ 2 (by decide) dL_act_371
    · exfalso; first | contradiction | omega
