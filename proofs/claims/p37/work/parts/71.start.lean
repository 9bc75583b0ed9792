/-! the law's start, up to its loop -/
theorem ps0_4 (j : Nat) (hj : j < 4) : -2 ≤ ps0 4 j ∧ ps0 4 j < 64000 := by
  unfold ps0
  rw [if_pos hj]
  decide
theorem okW_0 : okW st0 (0, 0, fun _ => st0) (fun _ => 0) (fun _ => st0) (fun _ => 0) 0 :=
  ⟨Gd_0 _ ps0_4, ⟨(show (0 : Nat) < 6 by decide), (show (0 : Nat) ≤ 6 by decide)⟩, fun _ _ => .inl rfl, Nat.zero_le _, fun _ _ => (show (0 : Nat) < 128 by decide)⟩
theorem okW_1 : okW st0 (0, 0, fun _ => st0) (zU (fun _ => 0) 0 1) (zU (fun _ => st0) 0 st0) (fun _ => 0) 0 := ⟨okW_0.1, okW_0.2.1, zU_fl okW_0.2.2.1, okW_0.2.2.2⟩
theorem Bd_0 : Bd 0 st0 := ⟨Nat.le_refl 0, Nat.le_refl 0, Nat.le_refl 0⟩
theorem LJ_0 : LJ 0 st0 (0, 0, fun _ => st0) (zU (fun _ => 0) 0 1) (zU (fun _ => st0) 0 st0) (fun _ => 0) 0 := by
  refine ⟨okW_1, zU_s _ _ _, ?_, Bd_0⟩
  rw [zU_s]
  exact ⟨okW_0.1, Bd_0⟩

theorem zlk_L_law_c12 : Cond.classLink RL 12 RX6 ∈ wsL_law := by decide +kernel
theorem zlk_L_law_nX6 : Cond.instantiable RX6 5 ∈ wsL_law := by decide +kernel
theorem zlk_L_law_iX6 : Cond.initialized RX6 ∈ wsL_law := by decide +kernel
theorem zlk_L_law_in122 : Cond.instanceMethod yX6_init ∈ wsL_law := by decide +kernel
theorem zlk_L_law_m122 : Cond.methodLink RL 122 yX6_init ∈ wsL_law := by decide +kernel
section
variable {p : Program} {l : Launch} {e : Env} {s9 : State} {m : MethodId} {args : Array Value} {below : List Frame} {meth : Method} {c : Code} {D : va_G} {ct : zCT} {A9 : Nat → Prop} {Q : State → Prop} {A : AdV} {b L : Nat} {xs : Nat → Int32}
set_option maxHeartbeats 8000000 in
set_option maxRecDepth 100000 in
theorem law_first (Z : zC p s9 m args c cL_law RL wsL_law 13 D ct A9) (hA : okA A) (hX : va_X b L xs s9 s9.heap) (hbl : b < s9.heap.size) (hbA : ¬ A9 b) (hL : L ≤ 260) (hend : ∀ (ws : va_W) (lv : List (Nat × Value)), zW p l e room_1 s9 m args below meth c D A9 13 Q 73 1527 ws lv 283 [zi 1]) : zW p l e room_1 s9 m args below meth c D A9 13 Q 73 1527 (OW ct A st0 (0, 0, fun _ => st0) (fun _ => 0) (fun _ => st0) (fun _ => 0) 0) [(1, .ref (A.1 0)), (0, .ref b)] 8 [] := by
  have hst0 : st0.2.2.2.2.1 = 0 := rfl
  have hk0 : okW st0 (0, 0, fun _ => st0) (fun _ => 0) (fun _ => st0) (fun _ => 0) 0 := okW_0
  refine z_aload_n Z dL_law_8 0 rfl ?_
  refine z_iconst (v := 0) Z dL_law_9 rfl ?_
  refine z_callVw (rest := []) Z dL_law_10 5 0 _ _ rfl rfl rfl (zc_X6_save l D ct (A.1 0) (A.1 1) (A.1 2) (A.1 3) (A.1 4) (A.1 5) (A.1 6) (A.1 7) (A.1 8) (A.1 9) (A.1 10) (A.1 11) (st0.1) (st0.2.1) (st0.2.2.1) (st0.2.2.2.1) (st0.2.2.2.2.1) (st0.2.2.2.2.2.1) (st0.2.2.2.2.2.2.1) (st0.2.2.2.2.2.2.2) (A.1 12) (A.1 13) ((0, 0, fun _ => st0).1) ((0, 0, fun _ => st0).2.1) (A.2.1) (A.2.2.2.1) ((0, 0, fun _ => st0).2.2) (A.2.2.1) ((fun _ => 0)) (A.2.2.2.2) ((fun _ => st0)) ((fun _ => 0)) (0) (0) (hk0.1.1.1.1) (hk0.1.1.1.2.1) (hk0.1.1.1.2.2.1) (hk0.1.1.1.2.2.2.1) (hk0.1.1.2) (hk0.1.1.1.2.2.2.2) (hk0.2.1.1) (hk0.2.1.2) (hA.1) (hA.2) (hk0.2.2.1) (hk0.2.2.2.1) (hk0.2.2.2.2) (by first | assumption | omega)) rfl (cwV 1 Z.1.2.2.2.2 gL_law_X6_save rfl rfl rfl (by decide +kernel) ⟨Nat.le_of_ble_eq_true rfl, Nat.le_of_ble_eq_true rfl⟩) rfl (Nat.le_of_ble_eq_true rfl) ⟨Nat.le_of_ble_eq_true rfl, Nat.le_of_ble_eq_true rfl⟩ (fun _ => OW ct A st0 (0, 0, fun _ => st0) (zU (fun _ => 0) 0 1) (zU (fun _ => st0) 0 st0) (fun _ => 0) 0) (fun _ => [zi (((st0.2.2.2.2.1) : Nat) : Int)]) (fun _ => rfl) rfl (fun _ => rfl) (fun _ _ => ?_)
  have k1 : okW st0 (0, 0, fun _ => st0) (zU (fun _ => 0) 0 1) (zU (fun _ => st0) 0 st0) (fun _ => 0) 0 := okW_1
  refine z_if_ne Z 27 dL_law_13 (by decide) (by omega) (fun h13 => ?_) (fun h13 => ?_)
  · exfalso; first | contradiction | omega
  · refine z_aload_n Z dL_law_16 0 rfl ?_
    refine z_callSw (rest := []) Z dL_law_17 (zc_L_holds l D ct A st0 (0, 0, fun _ => st0) (zU (fun _ => 0) 0 1) (zU (fun _ => st0) 0 st0) (fun _ => 0) 0 hA k1) rfl (va_cwS 1 Z.1.2.2.2.2 gL_law_L_holds rfl rfl rfl (by decide +kernel) ⟨Nat.le_of_ble_eq_true rfl, Nat.le_of_ble_eq_true rfl⟩) rfl (Nat.le_of_ble_eq_true rfl) ⟨Nat.le_of_ble_eq_true rfl, Nat.le_of_ble_eq_true rfl⟩ (fun _ => OW ct A st0 (0, 0, fun _ => st0) (zU (fun _ => 0) 0 1) (zU (fun _ => st0) 0 st0) (fun _ => 0) 0) (fun _ => [zi 1]) (fun _ => rfl) rfl (fun _ => rfl) (fun _ _ => ?_)
    refine z_if_eq Z 27 dL_law_20 (by decide) (by omega) (fun h20 => ?_) (fun h20 => ?_)
    · exfalso; first | contradiction | omega
    · refine z_iconst (v := 1) Z dL_law_23 rfl ?_
      refine z_goto Z 28 dL_law_24 (by decide) ?_
      refine z_istore_n Z dL_law_28 [(2, zi 1), (1, .ref (A.1 0)), (0, .ref b)] (by decide) rfl ?_
      refine z_iconst (v := 0) Z dL_law_29 rfl ?_
      refine z_istore_n Z dL_law_30 [(3, zi 0), (2, zi 1), (1, .ref (A.1 0)), (0, .ref b)] (by decide) rfl ?_
      refine z_lsub [3, 2, 1, 0] [(0, .ref b), (1, .ref (A.1 0)), (2, zi 1), (3, zi 0)] rfl ?_
      exact law_loop Z hA hX hbl hbA hL hend 62 0 st0 (0, 0, fun _ => st0) (zU (fun _ => 0) 0 1) (zU (fun _ => st0) 0 st0) (fun _ => 0) 0 (by omega) (by omega) LJ_0
set_option maxHeartbeats 8000000 in
set_option maxRecDepth 100000 in
theorem law_start (Z : zC p s9 m args c cL_law RL wsL_law 13 D ct A9) (hN9 : zN9 s9) (hX : va_X b L xs s9 s9.heap) (hbl : b < s9.heap.size) (hbA : ¬ A9 b) (hL : L ≤ 260) (hend : ∀ (ws : va_W) (lv : List (Nat × Value)), zW p l e room_1 s9 m args below meth c D A9 13 Q 73 1527 ws lv 283 [zi 1]) : zW p l e room_1 s9 m args below meth c D A9 13 Q 0 0 [] [(0, .ref b)] 0 [] := by
  refine z_new (ci := 5) (fs := [.null, .null, .null, .null, .null]) Z dL_law_0 inlX6 tyX6 tyX6_ok zlk_L_law_c12 zlk_L_law_nX6 zlk_L_law_iX6 rfl (fun j hj => by rcases (show j = 0 ∨ j = 1 ∨ j = 2 ∨ j = 3 ∨ j = 4 by omega) with rfl | rfl | rfl | rfl | rfl <;> rfl) (by first | exact Nat.le_of_ble_eq_true rfl | (show _ ≤ 600172; omega)) (by first | exact Nat.le_of_ble_eq_true rfl | (show _ ≤ 7300668; omega)) (fun q0 => [zO q0 5 [.null, .null, .null, .null, .null]]) (fun _ => List.Perm.refl _) (fun q0 => ?_)
  refine z_dup Z dL_law_3 rfl ?_
  refine z_ctor (rest := [.ref q0]) Z hN9 dL_law_4 (zc_X6_init l D ct q0) ⟨callB_of 0 Z.1.2.2.2.2 gL_law_X6_init rfl rfl rfl (Z.1.2.2.2.2 _ zlk_L_law_iX6) (Z.1.2.2.2.2 _ zlk_L_law_m122) (by decide +kernel) ⟨Nat.le_of_ble_eq_true rfl, Nat.le_of_ble_eq_true rfl⟩, rfl, Z.1.2.2.2.2 _ zlk_L_law_in122⟩ rfl (Nat.le_of_ble_eq_true rfl) ⟨(by first | exact Nat.le_of_ble_eq_true rfl | (show _ ≤ 600172; omega)), (by first | exact Nat.le_of_ble_eq_true rfl | (show _ ≤ 7300668; omega))⟩ (zcut_of [true] rfl rfl) (fun u4 => ([zO q0 5 [.ref (u4.1 0), .ref (u4.2.1.1), .ref (u4.2.2.1.1), .ref (u4.2.2.1.2.1), .ref (u4.2.2.2.1)], zO (u4.1 0) 2 [.ref (u4.1 1), .ref (u4.1 2), .ref (u4.1 3), zi 0], zO (u4.1 1) 0 [.ref (u4.1 4), .ref (u4.1 5), zi 0], zAI ct (u4.1 4) 40 (zN (fun _ => 0)), zAI ct (u4.1 5) 40 (zN (fun _ => 0)), zO (u4.1 2) 4 [.ref (u4.1 6), zi 0, zi 0], zAI ct (u4.1 6) 64 (zN (fun _ => 0)), zAI ct (u4.1 3) 4 (ps0 4), zO (u4.2.2.2.1) 3 [.ref (u4.2.2.2.2), zi 0], zAI ct (u4.2.2.2.2) 80 (zN (fun _ => 0)), zO (u4.2.1.1) 1 [.ref (u4.2.1.2.1), zi 0, zi 0], zAS ct (u4.2.1.2.1) 6 (u4.2.1.2.2.1), zAS ct (u4.2.2.1.1) 2 (u4.2.2.1.2.2.1), zAZ ct (u4.2.2.1.2.1) 2 (fun _ => 0)] ++ (stR ct u4.2.1.2.2.2 (fun _ => st0) (List.range 6) ++ (stR ct u4.2.2.1.2.2.2 (fun _ => st0) (List.range 2))))) (fun u4 => (List.Perm.of_eq (List.append_nil _))) rfl (fun u4 hu4 => ?_)
  refine z_astore_n Z dL_law_7 [(1, .ref q0), (0, .ref b)] (by decide) rfl ?_
  have hJ0 : okW st0 (0, 0, fun _ => st0) (fun _ => 0) (fun _ => st0) (fun _ => 0) 0 := okW_0
  have hA : okA ((fun k => match k with | 0 => q0 | 1 => u4.2.2.2.1 | 2 => u4.2.2.2.2 | 3 => u4.2.2.1.1 | 4 => u4.2.2.1.2.1 | 5 => u4.1 0 | 6 => u4.1 1 | 7 => u4.1 2 | 8 => u4.1 3 | 9 => u4.1 4 | 10 => u4.1 5 | 11 => u4.1 6 | 12 => u4.2.1.1 | _ => u4.2.1.2.1), u4.2.1.2.2.1, u4.2.2.1.2.2.1, u4.2.1.2.2.2, u4.2.2.1.2.2.2) := ⟨hu4.1, hu4.2⟩
  refine z_eqs (OW ct ((fun k => match k with | 0 => q0 | 1 => u4.2.2.2.1 | 2 => u4.2.2.2.2 | 3 => u4.2.2.1.1 | 4 => u4.2.2.1.2.1 | 5 => u4.1 0 | 6 => u4.1 1 | 7 => u4.1 2 | 8 => u4.1 3 | 9 => u4.1 4 | 10 => u4.1 5 | 11 => u4.1 6 | 12 => u4.2.1.1 | _ => u4.2.1.2.1), u4.2.1.2.2.1, u4.2.2.1.2.2.1, u4.2.1.2.2.2, u4.2.2.1.2.2.2) st0 (0, 0, fun _ => st0) (fun _ => 0) (fun _ => st0) (fun _ => 0) 0) [(1, .ref q0), (0, .ref b)] _ rfl rfl rfl ?_
  exact law_first (A := ((fun k => match k with | 0 => q0 | 1 => u4.2.2.2.1 | 2 => u4.2.2.2.2 | 3 => u4.2.2.1.1 | 4 => u4.2.2.1.2.1 | 5 => u4.1 0 | 6 => u4.1 1 | 7 => u4.1 2 | 8 => u4.1 3 | 9 => u4.1 4 | 10 => u4.1 5 | 11 => u4.1 6 | 12 => u4.2.1.1 | _ => u4.2.1.2.1), u4.2.1.2.2.1, u4.2.2.1.2.2.1, u4.2.1.2.2.2, u4.2.2.1.2.2.2)) Z hA hX hbl hbA hL hend
end
