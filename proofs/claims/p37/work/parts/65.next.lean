/-! the law's isNext -/
theorem okW.h9 {s : StV} {h : HsV} {fl : Nat → Int} {qv : Nat → StV} {tx : Nat → Nat} {len : Nat} (k : okW s h fl qv tx len) : h.2.1 ≤ 6 := k.2.1.2
theorem rem_rl {s : StV} (k : Gd s) {r : Nat} (hr : r < 4) (he : paV r s < elV r s) : ((s.2.2.2.2.1 - elV r s : Nat) : Int) = if (pzS s (zU s.2.2.2.1 r ((s.1 (elV r s - 1) : Nat) : Int))).2.2.2.1 r = -2 then -2 else (((pzS s (zU s.2.2.2.1 r ((s.1 (elV r s - 1) : Nat) : Int))).2.2.2.2.1 - paF (pzS s (zU s.2.2.2.1 r ((s.1 (elV r s - 1) : Nat) : Int))).1 (pzS s (zU s.2.2.2.1 r ((s.1 (elV r s - 1) : Nat) : Int))).2.2.2.2.1 ((pzS s (zU s.2.2.2.1 r ((s.1 (elV r s - 1) : Nat) : Int))).2.2.2.1 r) : Nat) : Int) := by
  have h1 := elV_le r s
  show _ = if zU s.2.2.2.1 r ((s.1 (elV r s - 1) : Nat) : Int) r = -2 then -2 else ((s.2.2.2.2.1 - paF s.1 s.2.2.2.2.1 (zU s.2.2.2.1 r ((s.1 (elV r s - 1) : Nat) : Int) r) : Nat) : Int)
  rw [zU_s, if_neg (by omega), pa_key k (by omega), show elV r s - 1 + 1 = elV r s by omega]
theorem rem_nx {s : StV} (k : Gd s) {r : Nat} (hr : r < 4) (he : paV r s < s.2.2.2.2.1) : ((s.2.2.2.2.1 - (paV r s + 1) : Nat) : Int) = if (pzS s (zU s.2.2.2.1 r ((s.1 (paV r s) : Nat) : Int))).2.2.2.1 r = -2 then -2 else (((pzS s (zU s.2.2.2.1 r ((s.1 (paV r s) : Nat) : Int))).2.2.2.2.1 - paF (pzS s (zU s.2.2.2.1 r ((s.1 (paV r s) : Nat) : Int))).1 (pzS s (zU s.2.2.2.1 r ((s.1 (paV r s) : Nat) : Int))).2.2.2.2.1 ((pzS s (zU s.2.2.2.1 r ((s.1 (paV r s) : Nat) : Int))).2.2.2.1 r) : Nat) : Int) := by
  show _ = if zU s.2.2.2.1 r ((s.1 (paV r s) : Nat) : Int) r = -2 then -2 else ((s.2.2.2.2.1 - paF s.1 s.2.2.2.2.1 (zU s.2.2.2.1 r ((s.1 (paV r s) : Nat) : Int) r) : Nat) : Int)
  rw [zU_s, if_neg (by omega), pa_key k he]
set_option maxHeartbeats 8000000 in
set_option maxRecDepth 100000 in
theorem zc_L_isNext (l : Launch) (D : va_G) (ct : zCT) (A : AdV) (s : StV) (h : HsV) (fl : Nat → Int) (qv : Nat → StV) (tx : Nat → Nat) (len : Nat) (r : Nat) (hA : okA A) (k : okW s h fl qv tx len) (hr : r < 4) : zMet l yL_isNext wsL_isNext ({ frames := 5, cells := 0, slots := 0, locals := 113 } : Room) D ct [.ref (A.1 0), zi ((r : Nat) : Int)] (OW ct A s h fl qv tx len) (fun u : HsV => okH u) (fun u => some (zi (1))) (fun u => (OW ct A s u fl qv tx len)) 0 0 := by
  refine zMet_z (cc := cL_isNext) (maxL := 11) (r := fun u => 1) (by decide) rfl (Nat.le_of_ble_eq_true rfl) (fun _ _ => rfl) ?_
  intro p e s9 m below meth c A9 Q Z hnm hR
  refine z_eqs _ [(0, .ref (A.1 0)), (1, zi ((r : Nat) : Int))] _ rfl rfl rfl ?_
  rcases (show s.2.2.2.1 r = -2 ∨ (s.2.2.2.1 r ≠ -2 ∧ paV r s < s.2.2.2.2.1) ∨ (s.2.2.2.1 r ≠ -2 ∧ s.2.2.2.2.1 ≤ paV r s) by omega) with hcl9 | ⟨hcl9, hpa9⟩ | ⟨hcl9, hpa9⟩
  · have hc40 : s.2.2.2.2.1 ≤ 40 := k.1.1.1.1
    have hple := paV_le r s
    have hele := elV_le r s
    have hpr9 := k.1.1.2 r hr
    refine z_aload_n Z dL_isNext_0 0 rfl ?_
    refine z_iload_n Z dL_isNext_1 1 rfl ?_
    refine z_callVw (rest := []) Z dL_isNext_2 5 0 _ _ rfl rfl rfl (zc_X6_position l D ct (A.1 0) (A.1 1) (A.1 2) (A.1 3) (A.1 4) (A.1 5) (A.1 6) (A.1 7) (A.1 8) (A.1 9) (A.1 10) (A.1 11) (s.1) (s.2.1) (s.2.2.1) (s.2.2.2.1) (s.2.2.2.2.1) (s.2.2.2.2.2.1) (s.2.2.2.2.2.2.1) (s.2.2.2.2.2.2.2) (A.1 12) (A.1 13) (h.1) (h.2.1) (A.2.1) (A.2.2.2.1) (h.2.2) (A.2.2.1) (fl) (A.2.2.2.2) (qv) (tx) (len) (r) (k.1.1.1.1) (k.1.1.1.2.1) (k.1.1.1.2.2.1) (k.1.1.1.2.2.2.1) (k.1.1.2) (k.1.1.1.2.2.2.2) (k.2.1.1) (k.2.1.2) (hA.1) (hA.2) (k.2.2.1) (k.2.2.2.1) (k.2.2.2.2) (hr)) rfl (cwV 1 Z.1.2.2.2.2 gL_isNext_X6_position rfl rfl rfl (by decide +kernel) ⟨Nat.le_of_ble_eq_true rfl, Nat.le_of_ble_eq_true rfl⟩) rfl (Nat.le_of_ble_eq_true rfl) ⟨Nat.le_of_ble_eq_true rfl, Nat.le_of_ble_eq_true rfl⟩ (fun _ => OW ct A s h fl qv tx len) (fun _ => [zi ((s.2.2.2.1) r)]) (fun _ => rfl) rfl (fun _ => rfl) (fun _ _ => ?_)
    refine z_istore_n Z dL_isNext_5 [(2, zi ((s.2.2.2.1) r)), (0, .ref (A.1 0)), (1, zi ((r : Nat) : Int))] (by decide) rfl ?_
    refine z_aload_n Z dL_isNext_6 1 rfl ?_
    refine z_iload_n Z dL_isNext_7 2 rfl ?_
    refine z_callVw (rest := []) Z dL_isNext_8 5 0 _ _ rfl rfl rfl (zc_X6_remaining l D ct (A.1 0) (A.1 1) (A.1 2) (A.1 3) (A.1 4) (A.1 5) (A.1 6) (A.1 7) (A.1 8) (A.1 9) (A.1 10) (A.1 11) (s.1) (s.2.1) (s.2.2.1) (s.2.2.2.1) (s.2.2.2.2.1) (s.2.2.2.2.2.1) (s.2.2.2.2.2.2.1) (s.2.2.2.2.2.2.2) (A.1 12) (A.1 13) (h.1) (h.2.1) (A.2.1) (A.2.2.2.1) (h.2.2) (A.2.2.1) (fl) (A.2.2.2.2) (qv) (tx) (len) (r) (k.1.1.1.1) (k.1.1.1.2.1) (k.1.1.1.2.2.1) (k.1.1.1.2.2.2.1) (k.1.1.2) (k.1.1.1.2.2.2.2) (k.2.1.1) (k.2.1.2) (hA.1) (hA.2) (k.2.2.1) (k.2.2.2.1) (k.2.2.2.2) (hr)) rfl (cwV 1 Z.1.2.2.2.2 gL_isNext_X6_remaining rfl rfl rfl (by decide +kernel) ⟨Nat.le_of_ble_eq_true rfl, Nat.le_of_ble_eq_true rfl⟩) rfl (Nat.le_of_ble_eq_true rfl) ⟨Nat.le_of_ble_eq_true rfl, Nat.le_of_ble_eq_true rfl⟩ (fun _ => OW ct A s h fl qv tx len) (fun _ => [zi (if (s.2.2.2.1) r = -2 then -2 else (((s.2.2.2.2.1) - paF (s.1) (s.2.2.2.2.1) ((s.2.2.2.1) r) : Nat) : Int))]) (fun _ => rfl) rfl (fun _ => rfl) (fun _ _ => ?_)
    refine z_top (y := (-2)) (by rw [if_pos hcl9]) ?_
    refine z_istore_n Z dL_isNext_11 [(3, zi (-2)), (2, zi ((s.2.2.2.1) r)), (0, .ref (A.1 0)), (1, zi ((r : Nat) : Int))] (by decide) rfl ?_
    refine z_aload_n Z dL_isNext_12 2 rfl ?_
    refine z_iload_n Z dL_isNext_13 3 rfl ?_
    refine z_callVw (rest := []) Z dL_isNext_14 5 0 _ _ rfl rfl rfl (zc_X6_peek l D ct (A.1 0) (A.1 1) (A.1 2) (A.1 3) (A.1 4) (A.1 5) (A.1 6) (A.1 7) (A.1 8) (A.1 9) (A.1 10) (A.1 11) (s.1) (s.2.1) (s.2.2.1) (s.2.2.2.1) (s.2.2.2.2.1) (s.2.2.2.2.2.1) (s.2.2.2.2.2.2.1) (s.2.2.2.2.2.2.2) (A.1 12) (A.1 13) (h.1) (h.2.1) (A.2.1) (A.2.2.2.1) (h.2.2) (A.2.2.1) (fl) (A.2.2.2.2) (qv) (tx) (len) (r) (k.1.1.1.1) (k.1.1.1.2.1) (k.1.1.1.2.2.1) (k.1.1.1.2.2.2.1) (k.1.1.2) (k.1.1.1.2.2.2.2) (k.2.1.1) (k.2.1.2) (hA.1) (hA.2) (k.2.2.1) (k.2.2.2.1) (k.2.2.2.2) (hr)) rfl (cwV 1 Z.1.2.2.2.2 gL_isNext_X6_peek rfl rfl rfl (by decide +kernel) ⟨Nat.le_of_ble_eq_true rfl, Nat.le_of_ble_eq_true rfl⟩) rfl (Nat.le_of_ble_eq_true rfl) ⟨Nat.le_of_ble_eq_true rfl, Nat.le_of_ble_eq_true rfl⟩ (fun _ => OW ct A s h fl qv tx len) (fun _ => [zi (if (s.2.2.2.1) r = -2 then -2 else if paF (s.1) (s.2.2.2.2.1) ((s.2.2.2.1) r) < (s.2.2.2.2.1) then (((s.1) (paF (s.1) (s.2.2.2.2.1) ((s.2.2.2.1) r)) % 1000 : Nat) : Int) else -2)]) (fun _ => rfl) rfl (fun _ => rfl) (fun _ _ => ?_)
    refine z_top (y := (-2)) (by rw [if_pos hcl9]) ?_
    refine z_istore Z dL_isNext_17 [(4, zi (-2)), (3, zi (-2)), (2, zi ((s.2.2.2.1) r)), (0, .ref (A.1 0)), (1, zi ((r : Nat) : Int))] (by decide) rfl ?_
    refine z_iload_n Z dL_isNext_19 2 rfl ?_
    refine z_bipush (v := -2) Z dL_isNext_20 (by decide +kernel) ?_
    refine z_icmp_ne Z 44 dL_isNext_22 (by decide) (by omega) (by omega) (fun h22 => ?_) (fun h22 => ?_)
    · exfalso; first | contradiction | omega
    · refine z_iload_n Z dL_isNext_25 1 rfl ?_
      refine z_bipush (v := -2) Z dL_isNext_26 (by decide +kernel) ?_
      refine z_icmp_ne Z 42 dL_isNext_28 (by decide) (by omega) (by omega) (fun h28 => ?_) (fun h28 => ?_)
      · exfalso; first | contradiction | omega
      · refine z_iload Z dL_isNext_31 0 rfl ?_
        refine z_bipush (v := -2) Z dL_isNext_33 (by decide +kernel) ?_
        refine z_icmp_ne Z 42 dL_isNext_35 (by decide) (by omega) (by omega) (fun h35 => ?_) (fun h35 => ?_)
        · exfalso; first | contradiction | omega
        · refine z_iconst (v := 1) Z dL_isNext_38 rfl ?_
          refine z_goto Z 43 dL_isNext_39 (by decide) ?_
          refine z_eqs (OW ct A s h fl qv tx len) _ [zi 1] (rfl) rfl (rfl) ?_
          exact hR _ _ h k.2.1 dL_isNext_43
  · have hc40 : s.2.2.2.2.1 ≤ 40 := k.1.1.1.1
    have hple := paV_le r s
    have hele := elV_le r s
    have hpr9 := k.1.1.2 r hr
    refine z_aload_n Z dL_isNext_0 0 rfl ?_
    refine z_iload_n Z dL_isNext_1 1 rfl ?_
    refine z_callVw (rest := []) Z dL_isNext_2 5 0 _ _ rfl rfl rfl (zc_X6_position l D ct (A.1 0) (A.1 1) (A.1 2) (A.1 3) (A.1 4) (A.1 5) (A.1 6) (A.1 7) (A.1 8) (A.1 9) (A.1 10) (A.1 11) (s.1) (s.2.1) (s.2.2.1) (s.2.2.2.1) (s.2.2.2.2.1) (s.2.2.2.2.2.1) (s.2.2.2.2.2.2.1) (s.2.2.2.2.2.2.2) (A.1 12) (A.1 13) (h.1) (h.2.1) (A.2.1) (A.2.2.2.1) (h.2.2) (A.2.2.1) (fl) (A.2.2.2.2) (qv) (tx) (len) (r) (k.1.1.1.1) (k.1.1.1.2.1) (k.1.1.1.2.2.1) (k.1.1.1.2.2.2.1) (k.1.1.2) (k.1.1.1.2.2.2.2) (k.2.1.1) (k.2.1.2) (hA.1) (hA.2) (k.2.2.1) (k.2.2.2.1) (k.2.2.2.2) (hr)) rfl (cwV 1 Z.1.2.2.2.2 gL_isNext_X6_position rfl rfl rfl (by decide +kernel) ⟨Nat.le_of_ble_eq_true rfl, Nat.le_of_ble_eq_true rfl⟩) rfl (Nat.le_of_ble_eq_true rfl) ⟨Nat.le_of_ble_eq_true rfl, Nat.le_of_ble_eq_true rfl⟩ (fun _ => OW ct A s h fl qv tx len) (fun _ => [zi ((s.2.2.2.1) r)]) (fun _ => rfl) rfl (fun _ => rfl) (fun _ _ => ?_)
    refine z_istore_n Z dL_isNext_5 [(2, zi ((s.2.2.2.1) r)), (0, .ref (A.1 0)), (1, zi ((r : Nat) : Int))] (by decide) rfl ?_
    refine z_aload_n Z dL_isNext_6 1 rfl ?_
    refine z_iload_n Z dL_isNext_7 2 rfl ?_
    refine z_callVw (rest := []) Z dL_isNext_8 5 0 _ _ rfl rfl rfl (zc_X6_remaining l D ct (A.1 0) (A.1 1) (A.1 2) (A.1 3) (A.1 4) (A.1 5) (A.1 6) (A.1 7) (A.1 8) (A.1 9) (A.1 10) (A.1 11) (s.1) (s.2.1) (s.2.2.1) (s.2.2.2.1) (s.2.2.2.2.1) (s.2.2.2.2.2.1) (s.2.2.2.2.2.2.1) (s.2.2.2.2.2.2.2) (A.1 12) (A.1 13) (h.1) (h.2.1) (A.2.1) (A.2.2.2.1) (h.2.2) (A.2.2.1) (fl) (A.2.2.2.2) (qv) (tx) (len) (r) (k.1.1.1.1) (k.1.1.1.2.1) (k.1.1.1.2.2.1) (k.1.1.1.2.2.2.1) (k.1.1.2) (k.1.1.1.2.2.2.2) (k.2.1.1) (k.2.1.2) (hA.1) (hA.2) (k.2.2.1) (k.2.2.2.1) (k.2.2.2.2) (hr)) rfl (cwV 1 Z.1.2.2.2.2 gL_isNext_X6_remaining rfl rfl rfl (by decide +kernel) ⟨Nat.le_of_ble_eq_true rfl, Nat.le_of_ble_eq_true rfl⟩) rfl (Nat.le_of_ble_eq_true rfl) ⟨Nat.le_of_ble_eq_true rfl, Nat.le_of_ble_eq_true rfl⟩ (fun _ => OW ct A s h fl qv tx len) (fun _ => [zi (if (s.2.2.2.1) r = -2 then -2 else (((s.2.2.2.2.1) - paF (s.1) (s.2.2.2.2.1) ((s.2.2.2.1) r) : Nat) : Int))]) (fun _ => rfl) rfl (fun _ => rfl) (fun _ _ => ?_)
    refine z_top (y := ((s.2.2.2.2.1 - paV r s : Nat) : Int)) (by rw [if_neg hcl9] <;> rfl) ?_
    refine z_istore_n Z dL_isNext_11 [(3, zi ((s.2.2.2.2.1 - paV r s : Nat) : Int)), (2, zi ((s.2.2.2.1) r)), (0, .ref (A.1 0)), (1, zi ((r : Nat) : Int))] (by decide) rfl ?_
    refine z_aload_n Z dL_isNext_12 2 rfl ?_
    refine z_iload_n Z dL_isNext_13 3 rfl ?_
    refine z_callVw (rest := []) Z dL_isNext_14 5 0 _ _ rfl rfl rfl (zc_X6_peek l D ct (A.1 0) (A.1 1) (A.1 2) (A.1 3) (A.1 4) (A.1 5) (A.1 6) (A.1 7) (A.1 8) (A.1 9) (A.1 10) (A.1 11) (s.1) (s.2.1) (s.2.2.1) (s.2.2.2.1) (s.2.2.2.2.1) (s.2.2.2.2.2.1) (s.2.2.2.2.2.2.1) (s.2.2.2.2.2.2.2) (A.1 12) (A.1 13) (h.1) (h.2.1) (A.2.1) (A.2.2.2.1) (h.2.2) (A.2.2.1) (fl) (A.2.2.2.2) (qv) (tx) (len) (r) (k.1.1.1.1) (k.1.1.1.2.1) (k.1.1.1.2.2.1) (k.1.1.1.2.2.2.1) (k.1.1.2) (k.1.1.1.2.2.2.2) (k.2.1.1) (k.2.1.2) (hA.1) (hA.2) (k.2.2.1) (k.2.2.2.1) (k.2.2.2.2) (hr)) rfl (cwV 1 Z.1.2.2.2.2 gL_isNext_X6_peek rfl rfl rfl (by decide +kernel) ⟨Nat.le_of_ble_eq_true rfl, Nat.le_of_ble_eq_true rfl⟩) rfl (Nat.le_of_ble_eq_true rfl) ⟨Nat.le_of_ble_eq_true rfl, Nat.le_of_ble_eq_true rfl⟩ (fun _ => OW ct A s h fl qv tx len) (fun _ => [zi (if (s.2.2.2.1) r = -2 then -2 else if paF (s.1) (s.2.2.2.2.1) ((s.2.2.2.1) r) < (s.2.2.2.2.1) then (((s.1) (paF (s.1) (s.2.2.2.2.1) ((s.2.2.2.1) r)) % 1000 : Nat) : Int) else -2)]) (fun _ => rfl) rfl (fun _ => rfl) (fun _ _ => ?_)
    refine z_top (y := ((s.1 (paV r s) % 1000 : Nat) : Int)) (by rw [if_neg hcl9]; exact (if_pos hpa9).symm) ?_
    refine z_istore Z dL_isNext_17 [(4, zi ((s.1 (paV r s) % 1000 : Nat) : Int)), (3, zi ((s.2.2.2.2.1 - paV r s : Nat) : Int)), (2, zi ((s.2.2.2.1) r)), (0, .ref (A.1 0)), (1, zi ((r : Nat) : Int))] (by decide) rfl ?_
    refine z_iload_n Z dL_isNext_19 2 rfl ?_
    refine z_bipush (v := -2) Z dL_isNext_20 (by decide +kernel) ?_
    refine z_icmp_ne Z 44 dL_isNext_22 (by decide) (by omega) (by omega) (fun h22 => ?_) (fun h22 => ?_)
    · have hidp := fo_id k.1 (k := paV r s) hpa9
      have hel9 := el_gt k.1 hpa9
      have hew9 := el_wh k.1 hpa9
      have hkp9 := k.1.1.1.2.1 (paV r s) (by omega)
      have hdp9 := (k.1.2.2.1 (s.1 (paV r s) / 1000) (by omega)).1
      have hcb9 := cbF_le s.1 s.2.2.2.2.1 (s.1 (paV r s) / 1000) (s.2.2.1 (s.1 (paV r s) / 1000))
      refine z_iconst (v := 0) Z dL_isNext_44 rfl ?_
      refine z_istore Z dL_isNext_45 [(5, zi 0), (4, zi ((s.1 (paV r s) % 1000 : Nat) : Int)), (3, zi ((s.2.2.2.2.1 - paV r s : Nat) : Int)), (2, zi ((s.2.2.2.1) r)), (0, .ref (A.1 0)), (1, zi ((r : Nat) : Int))] (by decide) rfl ?_
      refine z_iconst (v := 0) Z dL_isNext_47 rfl ?_
      refine z_istore Z dL_isNext_48 [(6, zi 0), (5, zi 0), (4, zi ((s.1 (paV r s) % 1000 : Nat) : Int)), (3, zi ((s.2.2.2.2.1 - paV r s : Nat) : Int)), (2, zi ((s.2.2.2.1) r)), (0, .ref (A.1 0)), (1, zi ((r : Nat) : Int))] (by decide) rfl ?_
      refine z_lsub [5, 6, 4, 3, 2, 1, 0] [(0, .ref (A.1 0)), (1, zi ((r : Nat) : Int)), (2, zi ((s.2.2.2.1) r)), (3, zi ((s.2.2.2.2.1 - paV r s : Nat) : Int)), (4, zi ((s.1 (paV r s) % 1000 : Nat) : Int)), (5, zi 0), (6, zi 0)] rfl ?_
      have LOOP50 : ∀ (N0 : Nat) (i : Nat) (x5 : Int) (x6 : Int), s.2.2.2.2.1 + 1 - i < N0 → x5 = ((abF s (s.2.2.2.1 r) i : Nat) : Int) → x6 = ((i : Nat) : Int) → (i ≤ s.2.2.2.2.1) → zW p l e ({ frames := 5, cells := 0, slots := 0, locals := 113 } : Room) s9 m ([.ref (A.1 0), zi ((r : Nat) : Int)] : List Value).toArray below meth c D A9 11 Q 0 0 (OW ct A s h fl qv tx len) [(0, .ref (A.1 0)), (1, zi ((r : Nat) : Int)), (2, zi ((s.2.2.2.1) r)), (3, zi ((s.2.2.2.2.1 - paV r s : Nat) : Int)), (4, zi ((s.1 (paV r s) % 1000 : Nat) : Int)), (5, zi x5), (6, zi x6)] 50 [] := by
        intro N0
        induction N0 with
        | zero => intro i x5 x6 hm0; exact absurd hm0 (Nat.not_lt_zero _)
        | succ N0 ih0 =>
          intro i x5 x6 hm0 ex5 ex6 hi
          subst ex5
          subst ex6
          refine z_iload Z dL_isNext_50 6 rfl ?_
          refine z_aload_n Z dL_isNext_52 0 rfl ?_
          refine z_callVw (rest := [zi ((i : Nat) : Int)]) Z dL_isNext_53 5 0 _ _ rfl rfl rfl (zc_X6_entries l D ct (A.1 0) (A.1 1) (A.1 2) (A.1 3) (A.1 4) (A.1 5) (A.1 6) (A.1 7) (A.1 8) (A.1 9) (A.1 10) (A.1 11) (s.1) (s.2.1) (s.2.2.1) (s.2.2.2.1) (s.2.2.2.2.1) (s.2.2.2.2.2.1) (s.2.2.2.2.2.2.1) (s.2.2.2.2.2.2.2) (A.1 12) (A.1 13) (h.1) (h.2.1) (A.2.1) (A.2.2.2.1) (h.2.2) (A.2.2.1) (fl) (A.2.2.2.2) (qv) (tx) (len) (k.1.1.1.1) (k.1.1.1.2.1) (k.1.1.1.2.2.1) (k.1.1.1.2.2.2.1) (k.1.1.2) (k.1.1.1.2.2.2.2) (k.2.1.1) (k.2.1.2) (hA.1) (hA.2) (k.2.2.1) (k.2.2.2.1) (k.2.2.2.2)) rfl (cwV 0 Z.1.2.2.2.2 gL_isNext_X6_entries rfl rfl rfl (by decide +kernel) ⟨Nat.le_of_ble_eq_true rfl, Nat.le_of_ble_eq_true rfl⟩) rfl (Nat.le_of_ble_eq_true rfl) ⟨Nat.le_of_ble_eq_true rfl, Nat.le_of_ble_eq_true rfl⟩ (fun _ => OW ct A s h fl qv tx len) (fun _ => [zi (((s.2.2.2.2.1) : Nat) : Int), zi ((i : Nat) : Int)]) (fun _ => rfl) rfl (fun _ => rfl) (fun _ _ => ?_)
          refine z_icmp_ge Z 100 dL_isNext_56 (by decide) (by omega) (by omega) (fun h56 => ?_) (fun h56 => ?_)
          · have hi9 : i = s.2.2.2.2.1 := by omega
            subst hi9
            have hab8 := abF_pa k.1 r
            refine z_iload_n Z dL_isNext_100 3 rfl ?_
            refine z_iload Z dL_isNext_101 5 rfl ?_
            refine z_icmp_ne Z 153 dL_isNext_103 (by decide) (by omega) (by omega) (fun h103 => ?_) (fun h103 => ?_)
            · exfalso; first | contradiction | omega
            · refine z_iload_n Z dL_isNext_106 3 rfl ?_
              refine z_if_ne Z 114 dL_isNext_107 (by decide) (by omega) (fun h107 => ?_) (fun h107 => ?_)
              · refine z_iconst (v := 0) Z dL_isNext_114 rfl ?_
                refine z_iload Z dL_isNext_115 4 rfl ?_
                refine z_bipush (v := -2) Z dL_isNext_117 (by decide +kernel) ?_
                refine z_icmp_ne Z 126 dL_isNext_119 (by decide) (by omega) (by omega) (fun h119 => ?_) (fun h119 => ?_)
                · refine z_iconst (v := 0) Z dL_isNext_126 rfl ?_
                  refine z_icmp_ne Z 153 dL_isNext_127 (by decide) (by omega) (by omega) (fun h127 => ?_) (fun h127 => ?_)
                  · exfalso; first | contradiction | omega
                  · refine z_iload_n Z dL_isNext_130 3 rfl ?_
                    refine z_if_eq Z 149 dL_isNext_131 (by decide) (by omega) (fun h131 => ?_) (fun h131 => ?_)
                    · exfalso; first | contradiction | omega
                    · refine z_iload Z dL_isNext_134 4 rfl ?_
                      refine z_aload_n Z dL_isNext_136 0 rfl ?_
                      refine z_aload_n Z dL_isNext_137 0 rfl ?_
                      refine z_callVw (rest := [.ref (A.1 0), zi ((s.1 (paV r s) % 1000 : Nat) : Int)]) Z dL_isNext_138 5 0 _ _ rfl rfl rfl (zc_X6_entries l D ct (A.1 0) (A.1 1) (A.1 2) (A.1 3) (A.1 4) (A.1 5) (A.1 6) (A.1 7) (A.1 8) (A.1 9) (A.1 10) (A.1 11) (s.1) (s.2.1) (s.2.2.1) (s.2.2.2.1) (s.2.2.2.2.1) (s.2.2.2.2.2.1) (s.2.2.2.2.2.2.1) (s.2.2.2.2.2.2.2) (A.1 12) (A.1 13) (h.1) (h.2.1) (A.2.1) (A.2.2.2.1) (h.2.2) (A.2.2.1) (fl) (A.2.2.2.2) (qv) (tx) (len) (k.1.1.1.1) (k.1.1.1.2.1) (k.1.1.1.2.2.1) (k.1.1.1.2.2.2.1) (k.1.1.2) (k.1.1.1.2.2.2.2) (k.2.1.1) (k.2.1.2) (hA.1) (hA.2) (k.2.2.1) (k.2.2.2.1) (k.2.2.2.2)) rfl (cwV 0 Z.1.2.2.2.2 gL_isNext_X6_entries rfl rfl rfl (by decide +kernel) ⟨Nat.le_of_ble_eq_true rfl, Nat.le_of_ble_eq_true rfl⟩) rfl (Nat.le_of_ble_eq_true rfl) ⟨Nat.le_of_ble_eq_true rfl, Nat.le_of_ble_eq_true rfl⟩ (fun _ => OW ct A s h fl qv tx len) (fun _ => [zi (((s.2.2.2.2.1) : Nat) : Int), .ref (A.1 0), zi ((s.1 (paV r s) % 1000 : Nat) : Int)]) (fun _ => rfl) rfl (fun _ => rfl) (fun _ _ => ?_)
                      refine z_iload_n Z dL_isNext_141 3 rfl ?_
                      refine z_isub Z dL_isNext_142 ?_
                      refine z_top (y := ((paV r s : Nat) : Int)) (by omega) ?_
                      refine z_callVw (rest := [zi ((s.1 (paV r s) % 1000 : Nat) : Int)]) Z dL_isNext_143 5 0 _ _ rfl rfl rfl (zc_X6_idAt l D ct (A.1 0) (A.1 1) (A.1 2) (A.1 3) (A.1 4) (A.1 5) (A.1 6) (A.1 7) (A.1 8) (A.1 9) (A.1 10) (A.1 11) (s.1) (s.2.1) (s.2.2.1) (s.2.2.2.1) (s.2.2.2.2.1) (s.2.2.2.2.2.1) (s.2.2.2.2.2.2.1) (s.2.2.2.2.2.2.2) (A.1 12) (A.1 13) (h.1) (h.2.1) (A.2.1) (A.2.2.2.1) (h.2.2) (A.2.2.1) (fl) (A.2.2.2.2) (qv) (tx) (len) (paV r s) (k.1.1.1.1) (k.1.1.1.2.1) (k.1.1.1.2.2.1) (k.1.1.1.2.2.2.1) (k.1.1.2) (k.1.1.1.2.2.2.2) (k.2.1.1) (k.2.1.2) (hA.1) (hA.2) (k.2.2.1) (k.2.2.2.1) (k.2.2.2.2) (by first | assumption | omega)) rfl (cwV 1 Z.1.2.2.2.2 gL_isNext_X6_idAt rfl rfl rfl (by decide +kernel) ⟨Nat.le_of_ble_eq_true rfl, Nat.le_of_ble_eq_true rfl⟩) rfl (Nat.le_of_ble_eq_true rfl) ⟨Nat.le_of_ble_eq_true rfl, Nat.le_of_ble_eq_true rfl⟩ (fun _ => OW ct A s h fl qv tx len) (fun _ => [zi (if (paV r s) < (s.2.2.2.2.1) then (((s.1) (paV r s) % 1000 : Nat) : Int) else -2), zi ((s.1 (paV r s) % 1000 : Nat) : Int)]) (fun _ => rfl) rfl (fun _ => rfl) (fun _ _ => ?_)
                      refine z_top (y := ((s.1 (paV r s) % 1000 : Nat) : Int)) (by rw [if_pos (by omega)]) ?_
                      refine z_icmp_ne Z 153 dL_isNext_146 (by decide) (by omega) (by omega) (fun h146 => ?_) (fun h146 => ?_)
                      · exfalso; first | contradiction | omega
                      · refine z_iconst (v := 1) Z dL_isNext_149 rfl ?_
                        refine z_goto Z 154 dL_isNext_150 (by decide) ?_
                        refine z_istore Z dL_isNext_154 [(6, zi 1), (0, .ref (A.1 0)), (1, zi ((r : Nat) : Int)), (2, zi ((s.2.2.2.1) r)), (3, zi ((s.2.2.2.2.1 - paV r s : Nat) : Int)), (4, zi ((s.1 (paV r s) % 1000 : Nat) : Int)), (5, zi ((abF s (s.2.2.2.1 r) s.2.2.2.2.1 : Nat) : Int))] (by decide) rfl ?_
                        refine z_aload_n Z dL_isNext_156 1 rfl ?_
                        refine z_callSw (rest := []) Z dL_isNext_157 (zc_L_told l D ct A s h fl qv tx len hA k) rfl (va_cwS 1 Z.1.2.2.2.2 gL_isNext_L_told rfl rfl rfl (by decide +kernel) ⟨Nat.le_of_ble_eq_true rfl, Nat.le_of_ble_eq_true rfl⟩) rfl (Nat.le_of_ble_eq_true rfl) ⟨Nat.le_of_ble_eq_true rfl, Nat.le_of_ble_eq_true rfl⟩ (fun _ => OW ct A s h fl qv tx len) (fun _ => [.long (tdF s)]) (fun _ => rfl) rfl (fun _ => rfl) (fun _ _ => ?_)
                        refine z_lstore Z dL_isNext_160 [(7, .long (tdF s)), (6, zi 1), (0, .ref (A.1 0)), (1, zi ((r : Nat) : Int)), (2, zi ((s.2.2.2.1) r)), (3, zi ((s.2.2.2.2.1 - paV r s : Nat) : Int)), (4, zi ((s.1 (paV r s) % 1000 : Nat) : Int)), (5, zi ((abF s (s.2.2.2.1 r) s.2.2.2.2.1 : Nat) : Int))] (by decide) rfl ?_
                        refine z_iload Z dL_isNext_162 6 rfl ?_
                        refine z_bipush (v := -2) Z dL_isNext_164 (by decide +kernel) ?_
                        refine z_icmp_ne Z 173 dL_isNext_166 (by decide) (by omega) (by omega) (fun h166 => ?_) (fun h166 => ?_)
                        · refine z_aload_n Z dL_isNext_173 2 rfl ?_
                          refine z_aload_n Z dL_isNext_174 2 rfl ?_
                          refine z_iload Z dL_isNext_175 6 rfl ?_
                          refine z_callVw (rest := [.ref (A.1 0)]) Z dL_isNext_177 5 0 _ _ rfl rfl rfl (zc_X6_hashOf l D ct (A.1 0) (A.1 1) (A.1 2) (A.1 3) (A.1 4) (A.1 5) (A.1 6) (A.1 7) (A.1 8) (A.1 9) (A.1 10) (A.1 11) (s.1) (s.2.1) (s.2.2.1) (s.2.2.2.1) (s.2.2.2.2.1) (s.2.2.2.2.2.1) (s.2.2.2.2.2.2.1) (s.2.2.2.2.2.2.2) (A.1 12) (A.1 13) (h.1) (h.2.1) (A.2.1) (A.2.2.2.1) (h.2.2) (A.2.2.1) (fl) (A.2.2.2.2) (qv) (tx) (len) (((s.1 (paV r s) % 1000 : Nat) : Int)) (k.1.1.1.1) (k.1.1.1.2.1) (k.1.1.1.2.2.1) (k.1.1.1.2.2.2.1) (k.1.1.2) (k.1.1.1.2.2.2.2) (k.2.1.1) (k.2.1.2) (hA.1) (hA.2) (k.2.2.1) (k.2.2.2.1) (k.2.2.2.2) (by first | assumption | omega) (by rw [hidp]; omega)) rfl (cwV 1 Z.1.2.2.2.2 gL_isNext_X6_hashOf rfl rfl rfl (by decide +kernel) ⟨Nat.le_of_ble_eq_true rfl, Nat.le_of_ble_eq_true rfl⟩) rfl (Nat.le_of_ble_eq_true rfl) ⟨Nat.le_of_ble_eq_true rfl, Nat.le_of_ble_eq_true rfl⟩ (fun _ => OW ct A s h fl qv tx len) (fun _ => [zi (((s.1) (foF (idP (s.1) ((s.1 (paV r s) % 1000 : Nat) : Int)) (s.2.2.2.2.1)).toNat / 1000 : Nat) : Int), .ref (A.1 0)]) (fun _ => rfl) rfl (fun _ => rfl) (fun _ _ => ?_)
                          refine z_top (y := ((s.1 (paV r s) / 1000 : Nat) : Int)) (by rw [hidp] <;> rfl) ?_
                          refine z_callVw (rest := []) Z dL_isNext_180 5 0 _ _ rfl rfl rfl (zc_X6_leafSize l D ct (A.1 0) (A.1 1) (A.1 2) (A.1 3) (A.1 4) (A.1 5) (A.1 6) (A.1 7) (A.1 8) (A.1 9) (A.1 10) (A.1 11) (s.1) (s.2.1) (s.2.2.1) (s.2.2.2.1) (s.2.2.2.2.1) (s.2.2.2.2.2.1) (s.2.2.2.2.2.2.1) (s.2.2.2.2.2.2.2) (A.1 12) (A.1 13) (h.1) (h.2.1) (A.2.1) (A.2.2.2.1) (h.2.2) (A.2.2.1) (fl) (A.2.2.2.2) (qv) (tx) (len) (s.1 (paV r s) / 1000) (k.1.1.1.1) (k.1.1.1.2.1) (k.1.1.1.2.2.1) (k.1.1.1.2.2.2.1) (k.1.1.2) (k.1.1.1.2.2.2.2) (k.2.1.1) (k.2.1.2) (hA.1) (hA.2) (k.2.2.1) (k.2.2.2.1) (k.2.2.2.2) (by first | assumption | omega)) rfl (cwV 1 Z.1.2.2.2.2 gL_isNext_X6_leafSize rfl rfl rfl (by decide +kernel) ⟨Nat.le_of_ble_eq_true rfl, Nat.le_of_ble_eq_true rfl⟩) rfl (Nat.le_of_ble_eq_true rfl) ⟨Nat.le_of_ble_eq_true rfl, Nat.le_of_ble_eq_true rfl⟩ (fun _ => OW ct A s h fl qv tx len) (fun _ => [zi ((cbF (s.1) (s.2.2.2.2.1) (s.1 (paV r s) / 1000) ((s.2.2.1) (s.1 (paV r s) / 1000)) : Nat) : Int)]) (fun _ => rfl) rfl (fun _ => rfl) (fun _ _ => ?_)
                          refine z_istore Z dL_isNext_183 [(9, zi ((cbF (s.1) (s.2.2.2.2.1) (s.1 (paV r s) / 1000) ((s.2.2.1) (s.1 (paV r s) / 1000)) : Nat) : Int)), (7, .long (tdF s)), (6, zi 1), (0, .ref (A.1 0)), (1, zi ((r : Nat) : Int)), (2, zi ((s.2.2.2.1) r)), (3, zi ((s.2.2.2.2.1 - paV r s : Nat) : Int)), (4, zi ((s.1 (paV r s) % 1000 : Nat) : Int)), (5, zi ((abF s (s.2.2.2.1 r) s.2.2.2.2.1 : Nat) : Int))] (by decide) rfl ?_
                          refine z_aload_n Z dL_isNext_185 3 rfl ?_
                          refine z_iload_n Z dL_isNext_186 4 rfl ?_
                          refine z_callVw (rest := []) Z dL_isNext_187 5 0 _ _ rfl rfl rfl (zc_X6_readLeaf_3 l D ct (A.1 0) (A.1 1) (A.1 2) (A.1 3) (A.1 4) (A.1 5) (A.1 6) (A.1 7) (A.1 8) (A.1 9) (A.1 10) (A.1 11) (s.1) (s.2.1) (s.2.2.1) (s.2.2.2.1) (s.2.2.2.2.1) (s.2.2.2.2.2.1) (s.2.2.2.2.2.2.1) (s.2.2.2.2.2.2.2) (A.1 12) (A.1 13) (h.1) (h.2.1) (A.2.1) (A.2.2.2.1) (h.2.2) (A.2.2.1) (fl) (A.2.2.2.2) (qv) (tx) (len) (r) (k.1.1.1.1) (k.1.1.1.2.1) (k.1.1.1.2.2.1) (k.1.1.1.2.2.2.1) (k.1.1.2) (k.1.1.1.2.2.2.2) (k.2.1.1) (k.2.1.2) (hA.1) (hA.2) (k.2.2.1) (k.2.2.2.1) (k.2.2.2.2) (hr) (hcl9) (hel9)) rfl (cwV 1 Z.1.2.2.2.2 gL_isNext_X6_readLeaf rfl rfl rfl (by decide +kernel) ⟨Nat.le_of_ble_eq_true rfl, Nat.le_of_ble_eq_true rfl⟩) rfl (Nat.le_of_ble_eq_true rfl) ⟨Nat.le_of_ble_eq_true rfl, Nat.le_of_ble_eq_true rfl⟩ (fun _ => OW ct A (pzS s (zU s.2.2.2.1 r ((s.1 ((if (paF s.1 s.2.2.2.2.1 (s.2.2.2.1 r)) < s.2.2.2.2.1 then elF s.1 s.2.2.1 s.2.2.2.2.1 (paF s.1 s.2.2.2.2.1 (s.2.2.2.1 r)) else (paF s.1 s.2.2.2.2.1 (s.2.2.2.1 r))) - 1) : Nat) : Int))) (phH s h) fl qv tx len) (fun _ => [zi (((if paF (s.1) (s.2.2.2.2.1) ((s.2.2.2.1) r) < (s.2.2.2.2.1) then elF (s.1) (s.2.2.1) (s.2.2.2.2.1) (paF (s.1) (s.2.2.2.2.1) ((s.2.2.2.1) r)) else paF (s.1) (s.2.2.2.2.1) ((s.2.2.2.1) r)) - paF (s.1) (s.2.2.2.2.1) ((s.2.2.2.1) r) : Nat) : Int)]) (fun _ => rfl) rfl (fun _ => rfl) (fun _ _ => ?_)
                          refine z_eqs (OW ct A (pzS s (zU s.2.2.2.1 r ((s.1 (elV r s - 1) : Nat) : Int))) (phH s h) fl qv tx len) _ _ (rfl) rfl rfl ?_
                          have k1 : okW (pzS s (zU s.2.2.2.1 r ((s.1 (elV r s - 1) : Nat) : Int))) (phH s h) fl qv tx len := (k).st (Gd_pos (k).1 (zU_p (k).1.1.2 (by have := (k).1.1.1.2.1 (elV r s - 1) (by omega); omega))) (okH_ph _ (k).2.1)
                          refine z_top (y := ((elV r s - paV r s : Nat) : Int)) (rfl) ?_
                          refine z_istore Z dL_isNext_190 [(10, zi ((elV r s - paV r s : Nat) : Int)), (9, zi ((cbF (s.1) (s.2.2.2.2.1) (s.1 (paV r s) / 1000) ((s.2.2.1) (s.1 (paV r s) / 1000)) : Nat) : Int)), (7, .long (tdF s)), (6, zi 1), (0, .ref (A.1 0)), (1, zi ((r : Nat) : Int)), (2, zi ((s.2.2.2.1) r)), (3, zi ((s.2.2.2.2.1 - paV r s : Nat) : Int)), (4, zi ((s.1 (paV r s) % 1000 : Nat) : Int)), (5, zi ((abF s (s.2.2.2.1 r) s.2.2.2.2.1 : Nat) : Int))] (by decide) rfl ?_
                          refine z_iload Z dL_isNext_192 3 rfl ?_
                          refine z_if_eq Z 265 dL_isNext_194 (by decide) (by omega) (fun h194 => ?_) (fun h194 => ?_)
                          · exfalso; first | contradiction | omega
                          · refine z_iload Z dL_isNext_197 0 rfl ?_
                            refine z_iload_n Z dL_isNext_199 7 rfl ?_
                            refine z_icmp_gt Z 265 dL_isNext_200 (by decide) (by omega) (by omega) (fun h200 => ?_) (fun h200 => ?_)
                            · exfalso; first | contradiction | omega
                            · refine z_iload Z dL_isNext_203 0 rfl ?_
                              refine z_iload Z dL_isNext_205 1 rfl ?_
                              refine z_icmp_gt Z 265 dL_isNext_207 (by decide) (by omega) (by omega) (fun h207 => ?_) (fun h207 => ?_)
                              · exfalso; first | contradiction | omega
                              · refine z_iload Z dL_isNext_210 0 rfl ?_
                                refine z_if_ne Z 219 dL_isNext_212 (by decide) (by omega) (fun h212 => ?_) (fun h212 => ?_)
                                · refine z_iconst (v := 0) Z dL_isNext_219 rfl ?_
                                  refine z_iload_n Z dL_isNext_220 7 rfl ?_
                                  refine z_if_ne Z 228 dL_isNext_221 (by decide) (by omega) (fun h221 => ?_) (fun h221 => ?_)
                                  · refine z_iconst (v := 0) Z dL_isNext_228 rfl ?_
                                    refine z_icmp_ne Z 265 dL_isNext_229 (by decide) (by omega) (by omega) (fun h229 => ?_) (fun h229 => ?_)
                                    · exfalso; first | contradiction | omega
                                    · refine z_aload_n Z dL_isNext_232 4 rfl ?_
                                      refine z_iload_n Z dL_isNext_233 5 rfl ?_
                                      refine z_callVw (rest := []) Z dL_isNext_234 5 0 _ _ rfl rfl rfl (zc_X6_remaining l D ct (A.1 0) (A.1 1) (A.1 2) (A.1 3) (A.1 4) (A.1 5) (A.1 6) (A.1 7) (A.1 8) (A.1 9) (A.1 10) (A.1 11) ((pzS s (zU s.2.2.2.1 r ((s.1 (elV r s - 1) : Nat) : Int))).1) ((pzS s (zU s.2.2.2.1 r ((s.1 (elV r s - 1) : Nat) : Int))).2.1) ((pzS s (zU s.2.2.2.1 r ((s.1 (elV r s - 1) : Nat) : Int))).2.2.1) ((pzS s (zU s.2.2.2.1 r ((s.1 (elV r s - 1) : Nat) : Int))).2.2.2.1) ((pzS s (zU s.2.2.2.1 r ((s.1 (elV r s - 1) : Nat) : Int))).2.2.2.2.1) ((pzS s (zU s.2.2.2.1 r ((s.1 (elV r s - 1) : Nat) : Int))).2.2.2.2.2.1) ((pzS s (zU s.2.2.2.1 r ((s.1 (elV r s - 1) : Nat) : Int))).2.2.2.2.2.2.1) ((pzS s (zU s.2.2.2.1 r ((s.1 (elV r s - 1) : Nat) : Int))).2.2.2.2.2.2.2) (A.1 12) (A.1 13) ((phH s h).1) ((phH s h).2.1) (A.2.1) (A.2.2.2.1) ((phH s h).2.2) (A.2.2.1) (fl) (A.2.2.2.2) (qv) (tx) (len) (r) (k1.1.1.1.1) (k1.1.1.1.2.1) (k1.1.1.1.2.2.1) (k1.1.1.1.2.2.2.1) (k1.1.1.2) (k1.1.1.1.2.2.2.2) (k1.2.1.1) (k1.2.1.2) (hA.1) (hA.2) (k1.2.2.1) (k1.2.2.2.1) (k1.2.2.2.2) (hr)) rfl (cwV 1 Z.1.2.2.2.2 gL_isNext_X6_remaining rfl rfl rfl (by decide +kernel) ⟨Nat.le_of_ble_eq_true rfl, Nat.le_of_ble_eq_true rfl⟩) rfl (Nat.le_of_ble_eq_true rfl) ⟨Nat.le_of_ble_eq_true rfl, Nat.le_of_ble_eq_true rfl⟩ (fun _ => OW ct A (pzS s (zU s.2.2.2.1 r ((s.1 (elV r s - 1) : Nat) : Int))) (phH s h) fl qv tx len) (fun _ => [zi (if ((pzS s (zU s.2.2.2.1 r ((s.1 (elV r s - 1) : Nat) : Int))).2.2.2.1) r = -2 then -2 else ((((pzS s (zU s.2.2.2.1 r ((s.1 (elV r s - 1) : Nat) : Int))).2.2.2.2.1) - paF ((pzS s (zU s.2.2.2.1 r ((s.1 (elV r s - 1) : Nat) : Int))).1) ((pzS s (zU s.2.2.2.1 r ((s.1 (elV r s - 1) : Nat) : Int))).2.2.2.2.1) (((pzS s (zU s.2.2.2.1 r ((s.1 (elV r s - 1) : Nat) : Int))).2.2.2.1) r) : Nat) : Int))]) (fun _ => rfl) rfl (fun _ => rfl) (fun _ _ => ?_)
                                      refine z_top (y := ((s.2.2.2.2.1 - elV r s : Nat) : Int)) (rem_rl k.1 hr hel9) ?_
                                      refine z_iload_n Z dL_isNext_237 7 rfl ?_
                                      refine z_iload Z dL_isNext_238 0 rfl ?_
                                      refine z_isub Z dL_isNext_240 ?_
                                      refine z_top (y := ((s.2.2.2.2.1 - elV r s : Nat) : Int)) (by omega) ?_
                                      refine z_icmp_ne Z 265 dL_isNext_241 (by decide) (by omega) (by omega) (fun h241 => ?_) (fun h241 => ?_)
                                      · exfalso; first | contradiction | omega
                                      · refine z_aload_n Z dL_isNext_244 4 rfl ?_
                                        have hh9 : (phH s h).2.1 ≤ 6 := (okW.h9 k1)
                                        refine z_callVw (rest := []) Z dL_isNext_245 5 0 _ _ rfl rfl rfl (zc_X6_undo l D ct (A.1 0) (A.1 1) (A.1 2) (A.1 3) (A.1 4) (A.1 5) (A.1 6) (A.1 7) (A.1 8) (A.1 9) (A.1 10) (A.1 11) ((pzS s (zU s.2.2.2.1 r ((s.1 (elV r s - 1) : Nat) : Int))).1) ((pzS s (zU s.2.2.2.1 r ((s.1 (elV r s - 1) : Nat) : Int))).2.1) ((pzS s (zU s.2.2.2.1 r ((s.1 (elV r s - 1) : Nat) : Int))).2.2.1) ((pzS s (zU s.2.2.2.1 r ((s.1 (elV r s - 1) : Nat) : Int))).2.2.2.1) ((pzS s (zU s.2.2.2.1 r ((s.1 (elV r s - 1) : Nat) : Int))).2.2.2.2.1) ((pzS s (zU s.2.2.2.1 r ((s.1 (elV r s - 1) : Nat) : Int))).2.2.2.2.2.1) ((pzS s (zU s.2.2.2.1 r ((s.1 (elV r s - 1) : Nat) : Int))).2.2.2.2.2.2.1) ((pzS s (zU s.2.2.2.1 r ((s.1 (elV r s - 1) : Nat) : Int))).2.2.2.2.2.2.2) (A.1 12) (A.1 13) ((phH s h).1) ((phH s h).2.1) (A.2.1) (A.2.2.2.1) ((phH s h).2.2) (A.2.2.1) (fl) (A.2.2.2.2) (qv) (tx) (len) (k1.1.1.1.1) (k1.1.1.1.2.1) (k1.1.1.1.2.2.1) (k1.1.1.1.2.2.2.1) (k1.1.1.2) (k1.1.1.1.2.2.2.2) (k1.2.1.1) (k1.2.1.2) (hA.1) (hA.2) (k1.2.2.1) (k1.2.2.2.1) (k1.2.2.2.2) (hc_pos _ _)) rfl (cwV 0 Z.1.2.2.2.2 gL_isNext_X6_undo rfl rfl rfl (by decide +kernel) ⟨Nat.le_of_ble_eq_true rfl, Nat.le_of_ble_eq_true rfl⟩) rfl (Nat.le_of_ble_eq_true rfl) ⟨Nat.le_of_ble_eq_true rfl, Nat.le_of_ble_eq_true rfl⟩ (fun _ => OW ct A (toH (phH s h)) (poH (phH s h)) fl qv tx len) (fun _ => [zi ((((phH s h).2.1) - 1 : Nat) : Int)]) (fun _ => rfl) rfl (fun _ => rfl) (fun _ _ => ?_)
                                        refine z_eqs (OW ct A s (poH (phH s h)) fl qv tx len) _ _ (by rw [to_ph] <;> rfl) rfl rfl ?_
                                        have k2 : okW s (poH (phH s h)) fl qv tx len := (k1).st k.1 (okH_po (k1).2.1)
                                        refine z_if_lt Z 265 dL_isNext_248 (by decide) (by omega) (fun h248 => ?_) (fun h248 => ?_)
                                        · exfalso; first | contradiction | omega
                                        · refine z_aload_n Z dL_isNext_251 4 rfl ?_
                                          refine z_callSw (rest := []) Z dL_isNext_252 (zc_L_told l D ct A s (poH (phH s h)) fl qv tx len hA k2) rfl (va_cwS 1 Z.1.2.2.2.2 gL_isNext_L_told rfl rfl rfl (by decide +kernel) ⟨Nat.le_of_ble_eq_true rfl, Nat.le_of_ble_eq_true rfl⟩) rfl (Nat.le_of_ble_eq_true rfl) ⟨Nat.le_of_ble_eq_true rfl, Nat.le_of_ble_eq_true rfl⟩ (fun _ => OW ct A s (poH (phH s h)) fl qv tx len) (fun _ => [.long (tdF s)]) (fun _ => rfl) rfl (fun _ => rfl) (fun _ _ => ?_)
                                          refine z_lload Z dL_isNext_255 2 rfl ?_
                                          refine z_lcmp_eq Z dL_isNext_257 (rfl) ?_
                                          refine z_if_ne Z 265 dL_isNext_258 (by decide) (by omega) (fun h258 => ?_) (fun h258 => ?_)
                                          · exfalso; first | contradiction | omega
                                          · refine z_iconst (v := 1) Z dL_isNext_261 rfl ?_
                                            refine z_goto Z 266 dL_isNext_262 (by decide) ?_
                                            refine z_istore Z dL_isNext_266 [(6, zi 1), (10, zi ((elV r s - paV r s : Nat) : Int)), (9, zi ((cbF (s.1) (s.2.2.2.2.1) (s.1 (paV r s) / 1000) ((s.2.2.1) (s.1 (paV r s) / 1000)) : Nat) : Int)), (7, .long (tdF s)), (0, .ref (A.1 0)), (1, zi ((r : Nat) : Int)), (2, zi ((s.2.2.2.1) r)), (3, zi ((s.2.2.2.2.1 - paV r s : Nat) : Int)), (4, zi ((s.1 (paV r s) % 1000 : Nat) : Int)), (5, zi ((abF s (s.2.2.2.1 r) s.2.2.2.2.1 : Nat) : Int))] (by decide) rfl ?_
                                            refine z_iload Z dL_isNext_268 0 rfl ?_
                                            refine z_if_eq Z 335 dL_isNext_270 (by decide) (by omega) (fun h270 => ?_) (fun h270 => ?_)
                                            · exfalso; first | contradiction | omega
                                            · refine z_aload_n Z dL_isNext_273 4 rfl ?_
                                              refine z_iload_n Z dL_isNext_274 5 rfl ?_
                                              refine z_callVw (rest := []) Z dL_isNext_275 5 0 _ _ rfl rfl rfl (zc_X6_next_3 l D ct (A.1 0) (A.1 1) (A.1 2) (A.1 3) (A.1 4) (A.1 5) (A.1 6) (A.1 7) (A.1 8) (A.1 9) (A.1 10) (A.1 11) (s.1) (s.2.1) (s.2.2.1) (s.2.2.2.1) (s.2.2.2.2.1) (s.2.2.2.2.2.1) (s.2.2.2.2.2.2.1) (s.2.2.2.2.2.2.2) (A.1 12) (A.1 13) ((poH (phH s h)).1) ((poH (phH s h)).2.1) (A.2.1) (A.2.2.2.1) ((poH (phH s h)).2.2) (A.2.2.1) (fl) (A.2.2.2.2) (qv) (tx) (len) (r) (k2.1.1.1.1) (k2.1.1.1.2.1) (k2.1.1.1.2.2.1) (k2.1.1.1.2.2.2.1) (k2.1.1.2) (k2.1.1.1.2.2.2.2) (k2.2.1.1) (k2.2.1.2) (hA.1) (hA.2) (k2.2.2.1) (k2.2.2.2.1) (k2.2.2.2.2) (hr) (hcl9) (hpa9)) rfl (cwV 1 Z.1.2.2.2.2 gL_isNext_X6_next rfl rfl rfl (by decide +kernel) ⟨Nat.le_of_ble_eq_true rfl, Nat.le_of_ble_eq_true rfl⟩) rfl (Nat.le_of_ble_eq_true rfl) ⟨Nat.le_of_ble_eq_true rfl, Nat.le_of_ble_eq_true rfl⟩ (fun _ => OW ct A (pzS s (zU s.2.2.2.1 r ((s.1 (paF s.1 s.2.2.2.2.1 (s.2.2.2.1 r)) : Nat) : Int))) (phH s (poH (phH s h))) fl qv tx len) (fun _ => [zi (((s.1) (paF (s.1) (s.2.2.2.2.1) ((s.2.2.2.1) r)) % 1000 : Nat) : Int)]) (fun _ => rfl) rfl (fun _ => rfl) (fun _ _ => ?_)
                                              refine z_eqs (OW ct A (pzS s (zU s.2.2.2.1 r ((s.1 (paV r s) : Nat) : Int))) (phH s (poH (phH s h))) fl qv tx len) _ _ (rfl) rfl rfl ?_
                                              have k3 : okW (pzS s (zU s.2.2.2.1 r ((s.1 (paV r s) : Nat) : Int))) (phH s (poH (phH s h))) fl qv tx len := (k2).st (Gd_pos (k2).1 (zU_p (k2).1.1.2 (by have := (k2).1.1.1.2.1 (paV r s) (by omega); omega))) (okH_ph _ (k2).2.1)
                                              refine z_top (y := ((s.1 (paV r s) % 1000 : Nat) : Int)) (rfl) ?_
                                              refine z_iload Z dL_isNext_278 8 rfl ?_
                                              refine z_icmp_ne Z 335 dL_isNext_280 (by decide) (by omega) (by omega) (fun h280 => ?_) (fun h280 => ?_)
                                              · exfalso; first | contradiction | omega
                                              · refine z_aload_n Z dL_isNext_283 4 rfl ?_
                                                refine z_iload_n Z dL_isNext_284 5 rfl ?_
                                                refine z_callVw (rest := []) Z dL_isNext_285 5 0 _ _ rfl rfl rfl (zc_X6_remaining l D ct (A.1 0) (A.1 1) (A.1 2) (A.1 3) (A.1 4) (A.1 5) (A.1 6) (A.1 7) (A.1 8) (A.1 9) (A.1 10) (A.1 11) ((pzS s (zU s.2.2.2.1 r ((s.1 (paV r s) : Nat) : Int))).1) ((pzS s (zU s.2.2.2.1 r ((s.1 (paV r s) : Nat) : Int))).2.1) ((pzS s (zU s.2.2.2.1 r ((s.1 (paV r s) : Nat) : Int))).2.2.1) ((pzS s (zU s.2.2.2.1 r ((s.1 (paV r s) : Nat) : Int))).2.2.2.1) ((pzS s (zU s.2.2.2.1 r ((s.1 (paV r s) : Nat) : Int))).2.2.2.2.1) ((pzS s (zU s.2.2.2.1 r ((s.1 (paV r s) : Nat) : Int))).2.2.2.2.2.1) ((pzS s (zU s.2.2.2.1 r ((s.1 (paV r s) : Nat) : Int))).2.2.2.2.2.2.1) ((pzS s (zU s.2.2.2.1 r ((s.1 (paV r s) : Nat) : Int))).2.2.2.2.2.2.2) (A.1 12) (A.1 13) ((phH s (poH (phH s h))).1) ((phH s (poH (phH s h))).2.1) (A.2.1) (A.2.2.2.1) ((phH s (poH (phH s h))).2.2) (A.2.2.1) (fl) (A.2.2.2.2) (qv) (tx) (len) (r) (k3.1.1.1.1) (k3.1.1.1.2.1) (k3.1.1.1.2.2.1) (k3.1.1.1.2.2.2.1) (k3.1.1.2) (k3.1.1.1.2.2.2.2) (k3.2.1.1) (k3.2.1.2) (hA.1) (hA.2) (k3.2.2.1) (k3.2.2.2.1) (k3.2.2.2.2) (hr)) rfl (cwV 1 Z.1.2.2.2.2 gL_isNext_X6_remaining rfl rfl rfl (by decide +kernel) ⟨Nat.le_of_ble_eq_true rfl, Nat.le_of_ble_eq_true rfl⟩) rfl (Nat.le_of_ble_eq_true rfl) ⟨Nat.le_of_ble_eq_true rfl, Nat.le_of_ble_eq_true rfl⟩ (fun _ => OW ct A (pzS s (zU s.2.2.2.1 r ((s.1 (paV r s) : Nat) : Int))) (phH s (poH (phH s h))) fl qv tx len) (fun _ => [zi (if ((pzS s (zU s.2.2.2.1 r ((s.1 (paV r s) : Nat) : Int))).2.2.2.1) r = -2 then -2 else ((((pzS s (zU s.2.2.2.1 r ((s.1 (paV r s) : Nat) : Int))).2.2.2.2.1) - paF ((pzS s (zU s.2.2.2.1 r ((s.1 (paV r s) : Nat) : Int))).1) ((pzS s (zU s.2.2.2.1 r ((s.1 (paV r s) : Nat) : Int))).2.2.2.2.1) (((pzS s (zU s.2.2.2.1 r ((s.1 (paV r s) : Nat) : Int))).2.2.2.1) r) : Nat) : Int))]) (fun _ => rfl) rfl (fun _ => rfl) (fun _ _ => ?_)
                                                refine z_top (y := ((s.2.2.2.2.1 - (paV r s + 1) : Nat) : Int)) (rem_nx k.1 hr hpa9) ?_
                                                refine z_iload_n Z dL_isNext_288 7 rfl ?_
                                                refine z_if_ne Z 296 dL_isNext_289 (by decide) (by omega) (fun h289 => ?_) (fun h289 => ?_)
                                                · refine z_iload_n Z dL_isNext_296 7 rfl ?_
                                                  refine z_iconst (v := 1) Z dL_isNext_297 rfl ?_
                                                  refine z_isub Z dL_isNext_298 ?_
                                                  refine z_top (y := ((s.2.2.2.2.1 - (paV r s + 1) : Nat) : Int)) (by omega) ?_
                                                  refine z_icmp_ne Z 335 dL_isNext_299 (by decide) (by omega) (by omega) (fun h299 => ?_) (fun h299 => ?_)
                                                  · exfalso; first | contradiction | omega
                                                  · refine z_aload_n Z dL_isNext_302 4 rfl ?_
                                                    refine z_iload_n Z dL_isNext_303 5 rfl ?_
                                                    refine z_callVw (rest := []) Z dL_isNext_304 5 0 _ _ rfl rfl rfl (zc_X6_position l D ct (A.1 0) (A.1 1) (A.1 2) (A.1 3) (A.1 4) (A.1 5) (A.1 6) (A.1 7) (A.1 8) (A.1 9) (A.1 10) (A.1 11) ((pzS s (zU s.2.2.2.1 r ((s.1 (paV r s) : Nat) : Int))).1) ((pzS s (zU s.2.2.2.1 r ((s.1 (paV r s) : Nat) : Int))).2.1) ((pzS s (zU s.2.2.2.1 r ((s.1 (paV r s) : Nat) : Int))).2.2.1) ((pzS s (zU s.2.2.2.1 r ((s.1 (paV r s) : Nat) : Int))).2.2.2.1) ((pzS s (zU s.2.2.2.1 r ((s.1 (paV r s) : Nat) : Int))).2.2.2.2.1) ((pzS s (zU s.2.2.2.1 r ((s.1 (paV r s) : Nat) : Int))).2.2.2.2.2.1) ((pzS s (zU s.2.2.2.1 r ((s.1 (paV r s) : Nat) : Int))).2.2.2.2.2.2.1) ((pzS s (zU s.2.2.2.1 r ((s.1 (paV r s) : Nat) : Int))).2.2.2.2.2.2.2) (A.1 12) (A.1 13) ((phH s (poH (phH s h))).1) ((phH s (poH (phH s h))).2.1) (A.2.1) (A.2.2.2.1) ((phH s (poH (phH s h))).2.2) (A.2.2.1) (fl) (A.2.2.2.2) (qv) (tx) (len) (r) (k3.1.1.1.1) (k3.1.1.1.2.1) (k3.1.1.1.2.2.1) (k3.1.1.1.2.2.2.1) (k3.1.1.2) (k3.1.1.1.2.2.2.2) (k3.2.1.1) (k3.2.1.2) (hA.1) (hA.2) (k3.2.2.1) (k3.2.2.2.1) (k3.2.2.2.2) (hr)) rfl (cwV 1 Z.1.2.2.2.2 gL_isNext_X6_position rfl rfl rfl (by decide +kernel) ⟨Nat.le_of_ble_eq_true rfl, Nat.le_of_ble_eq_true rfl⟩) rfl (Nat.le_of_ble_eq_true rfl) ⟨Nat.le_of_ble_eq_true rfl, Nat.le_of_ble_eq_true rfl⟩ (fun _ => OW ct A (pzS s (zU s.2.2.2.1 r ((s.1 (paV r s) : Nat) : Int))) (phH s (poH (phH s h))) fl qv tx len) (fun _ => [zi (((pzS s (zU s.2.2.2.1 r ((s.1 (paV r s) : Nat) : Int))).2.2.2.1) r)]) (fun _ => rfl) rfl (fun _ => rfl) (fun _ _ => ?_)
                                                    refine z_top (y := ((s.1 (paV r s) : Nat) : Int)) ((show (((s.1 (paV r s)) : Nat) : Int) = zU s.2.2.2.1 r ((s.1 (paV r s) : Nat) : Int) r from (zU_s _ _ _).symm)) ?_
                                                    refine z_iload_n Z dL_isNext_307 7 rfl ?_
                                                    refine z_if_ne Z 315 dL_isNext_308 (by decide) (by omega) (fun h308 => ?_) (fun h308 => ?_)
                                                    · refine z_sipush (v := 1000) Z dL_isNext_315 (by decide +kernel) ?_
                                                      refine z_aload_n Z dL_isNext_318 4 rfl ?_
                                                      refine z_iload Z dL_isNext_319 8 rfl ?_
                                                      refine z_callVw (rest := [zi 1000, zi ((s.1 (paV r s) : Nat) : Int)]) Z dL_isNext_321 5 0 _ _ rfl rfl rfl (zc_X6_hashOf l D ct (A.1 0) (A.1 1) (A.1 2) (A.1 3) (A.1 4) (A.1 5) (A.1 6) (A.1 7) (A.1 8) (A.1 9) (A.1 10) (A.1 11) ((pzS s (zU s.2.2.2.1 r ((s.1 (paV r s) : Nat) : Int))).1) ((pzS s (zU s.2.2.2.1 r ((s.1 (paV r s) : Nat) : Int))).2.1) ((pzS s (zU s.2.2.2.1 r ((s.1 (paV r s) : Nat) : Int))).2.2.1) ((pzS s (zU s.2.2.2.1 r ((s.1 (paV r s) : Nat) : Int))).2.2.2.1) ((pzS s (zU s.2.2.2.1 r ((s.1 (paV r s) : Nat) : Int))).2.2.2.2.1) ((pzS s (zU s.2.2.2.1 r ((s.1 (paV r s) : Nat) : Int))).2.2.2.2.2.1) ((pzS s (zU s.2.2.2.1 r ((s.1 (paV r s) : Nat) : Int))).2.2.2.2.2.2.1) ((pzS s (zU s.2.2.2.1 r ((s.1 (paV r s) : Nat) : Int))).2.2.2.2.2.2.2) (A.1 12) (A.1 13) ((phH s (poH (phH s h))).1) ((phH s (poH (phH s h))).2.1) (A.2.1) (A.2.2.2.1) ((phH s (poH (phH s h))).2.2) (A.2.2.1) (fl) (A.2.2.2.2) (qv) (tx) (len) (((s.1 (paV r s) % 1000 : Nat) : Int)) (k3.1.1.1.1) (k3.1.1.1.2.1) (k3.1.1.1.2.2.1) (k3.1.1.1.2.2.2.1) (k3.1.1.2) (k3.1.1.1.2.2.2.2) (k3.2.1.1) (k3.2.1.2) (hA.1) (hA.2) (k3.2.2.1) (k3.2.2.2.1) (k3.2.2.2.2) (by first | assumption | omega) ((show foF (idP s.1 (((s.1 (paV r s)) % 1000 : Nat) : Int)) s.2.2.2.2.1 ≠ -1 from by rw [hidp]; omega))) rfl (cwV 1 Z.1.2.2.2.2 gL_isNext_X6_hashOf rfl rfl rfl (by decide +kernel) ⟨Nat.le_of_ble_eq_true rfl, Nat.le_of_ble_eq_true rfl⟩) rfl (Nat.le_of_ble_eq_true rfl) ⟨Nat.le_of_ble_eq_true rfl, Nat.le_of_ble_eq_true rfl⟩ (fun _ => OW ct A (pzS s (zU s.2.2.2.1 r ((s.1 (paV r s) : Nat) : Int))) (phH s (poH (phH s h))) fl qv tx len) (fun _ => [zi ((((pzS s (zU s.2.2.2.1 r ((s.1 (paV r s) : Nat) : Int))).1) (foF (idP ((pzS s (zU s.2.2.2.1 r ((s.1 (paV r s) : Nat) : Int))).1) ((s.1 (paV r s) % 1000 : Nat) : Int)) ((pzS s (zU s.2.2.2.1 r ((s.1 (paV r s) : Nat) : Int))).2.2.2.2.1)).toNat / 1000 : Nat) : Int), zi 1000, zi ((s.1 (paV r s) : Nat) : Int)]) (fun _ => rfl) rfl (fun _ => rfl) (fun _ _ => ?_)
                                                      refine z_top (y := ((s.1 (paV r s) / 1000 : Nat) : Int)) ((show (((s.1 (paV r s)) / 1000 : Nat) : Int) = ((s.1 (foF (idP s.1 (((s.1 (paV r s)) % 1000 : Nat) : Int)) s.2.2.2.2.1).toNat / 1000 : Nat) : Int) from by rw [hidp] <;> rfl)) ?_
                                                      refine z_imul Z dL_isNext_324 ?_
                                                      refine z_top (y := ((1000 * (s.1 (paV r s) / 1000) : Nat) : Int)) (by omega) ?_
                                                      refine z_iload Z dL_isNext_325 8 rfl ?_
                                                      refine z_iadd Z dL_isNext_327 ?_
                                                      refine z_top (y := ((s.1 (paV r s) : Nat) : Int)) (by omega) ?_
                                                      refine z_icmp_ne Z 335 dL_isNext_328 (by decide) (by omega) (by omega) (fun h328 => ?_) (fun h328 => ?_)
                                                      · exfalso; first | contradiction | omega
                                                      · refine z_iconst (v := 1) Z dL_isNext_331 rfl ?_
                                                        refine z_goto Z 336 dL_isNext_332 (by decide) ?_
                                                        refine z_istore Z dL_isNext_336 [(6, zi 1), (10, zi ((elV r s - paV r s : Nat) : Int)), (9, zi ((cbF (s.1) (s.2.2.2.2.1) (s.1 (paV r s) / 1000) ((s.2.2.1) (s.1 (paV r s) / 1000)) : Nat) : Int)), (7, .long (tdF s)), (0, .ref (A.1 0)), (1, zi ((r : Nat) : Int)), (2, zi ((s.2.2.2.1) r)), (3, zi ((s.2.2.2.2.1 - paV r s : Nat) : Int)), (4, zi ((s.1 (paV r s) % 1000 : Nat) : Int)), (5, zi ((abF s (s.2.2.2.1 r) s.2.2.2.2.1 : Nat) : Int))] (by decide) rfl ?_
                                                        refine z_iload Z dL_isNext_338 0 rfl ?_
                                                        refine z_if_eq Z 364 dL_isNext_340 (by decide) (by omega) (fun h340 => ?_) (fun h340 => ?_)
                                                        · exfalso; first | contradiction | omega
                                                        · refine z_aload_n Z dL_isNext_343 4 rfl ?_
                                                          have hh9 : (phH s (poH (phH s h))).2.1 ≤ 6 := (okW.h9 k3)
                                                          refine z_callVw (rest := []) Z dL_isNext_344 5 0 _ _ rfl rfl rfl (zc_X6_undo l D ct (A.1 0) (A.1 1) (A.1 2) (A.1 3) (A.1 4) (A.1 5) (A.1 6) (A.1 7) (A.1 8) (A.1 9) (A.1 10) (A.1 11) ((pzS s (zU s.2.2.2.1 r ((s.1 (paV r s) : Nat) : Int))).1) ((pzS s (zU s.2.2.2.1 r ((s.1 (paV r s) : Nat) : Int))).2.1) ((pzS s (zU s.2.2.2.1 r ((s.1 (paV r s) : Nat) : Int))).2.2.1) ((pzS s (zU s.2.2.2.1 r ((s.1 (paV r s) : Nat) : Int))).2.2.2.1) ((pzS s (zU s.2.2.2.1 r ((s.1 (paV r s) : Nat) : Int))).2.2.2.2.1) ((pzS s (zU s.2.2.2.1 r ((s.1 (paV r s) : Nat) : Int))).2.2.2.2.2.1) ((pzS s (zU s.2.2.2.1 r ((s.1 (paV r s) : Nat) : Int))).2.2.2.2.2.2.1) ((pzS s (zU s.2.2.2.1 r ((s.1 (paV r s) : Nat) : Int))).2.2.2.2.2.2.2) (A.1 12) (A.1 13) ((phH s (poH (phH s h))).1) ((phH s (poH (phH s h))).2.1) (A.2.1) (A.2.2.2.1) ((phH s (poH (phH s h))).2.2) (A.2.2.1) (fl) (A.2.2.2.2) (qv) (tx) (len) (k3.1.1.1.1) (k3.1.1.1.2.1) (k3.1.1.1.2.2.1) (k3.1.1.1.2.2.2.1) (k3.1.1.2) (k3.1.1.1.2.2.2.2) (k3.2.1.1) (k3.2.1.2) (hA.1) (hA.2) (k3.2.2.1) (k3.2.2.2.1) (k3.2.2.2.2) (hc_pos _ _)) rfl (cwV 0 Z.1.2.2.2.2 gL_isNext_X6_undo rfl rfl rfl (by decide +kernel) ⟨Nat.le_of_ble_eq_true rfl, Nat.le_of_ble_eq_true rfl⟩) rfl (Nat.le_of_ble_eq_true rfl) ⟨Nat.le_of_ble_eq_true rfl, Nat.le_of_ble_eq_true rfl⟩ (fun _ => OW ct A (toH (phH s (poH (phH s h)))) (poH (phH s (poH (phH s h)))) fl qv tx len) (fun _ => [zi ((((phH s (poH (phH s h))).2.1) - 1 : Nat) : Int)]) (fun _ => rfl) rfl (fun _ => rfl) (fun _ _ => ?_)
                                                          refine z_eqs (OW ct A s (poH (phH s (poH (phH s h)))) fl qv tx len) _ _ (by rw [to_ph] <;> rfl) rfl rfl ?_
                                                          have k4 : okW s (poH (phH s (poH (phH s h)))) fl qv tx len := (k3).st k.1 (okH_po (k3).2.1)
                                                          refine z_if_lt Z 364 dL_isNext_347 (by decide) (by omega) (fun h347 => ?_) (fun h347 => ?_)
                                                          · exfalso; first | contradiction | omega
                                                          · refine z_aload_n Z dL_isNext_350 4 rfl ?_
                                                            refine z_callSw (rest := []) Z dL_isNext_351 (zc_L_told l D ct A s (poH (phH s (poH (phH s h)))) fl qv tx len hA k4) rfl (va_cwS 1 Z.1.2.2.2.2 gL_isNext_L_told rfl rfl rfl (by decide +kernel) ⟨Nat.le_of_ble_eq_true rfl, Nat.le_of_ble_eq_true rfl⟩) rfl (Nat.le_of_ble_eq_true rfl) ⟨Nat.le_of_ble_eq_true rfl, Nat.le_of_ble_eq_true rfl⟩ (fun _ => OW ct A s (poH (phH s (poH (phH s h)))) fl qv tx len) (fun _ => [.long (tdF s)]) (fun _ => rfl) rfl (fun _ => rfl) (fun _ _ => ?_)
                                                            refine z_lload Z dL_isNext_354 3 rfl ?_
                                                            refine z_lcmp_eq Z dL_isNext_356 (rfl) ?_
                                                            refine z_if_ne Z 364 dL_isNext_357 (by decide) (by omega) (fun h357 => ?_) (fun h357 => ?_)
                                                            · exfalso; first | contradiction | omega
                                                            · refine z_iconst (v := 1) Z dL_isNext_360 rfl ?_
                                                              refine z_goto Z 365 dL_isNext_361 (by decide) ?_
                                                              refine z_eqs (OW ct A s (poH (phH s (poH (phH s h)))) fl qv tx len) _ [zi 1] (rfl) rfl (rfl) ?_
                                                              exact hR _ _ (poH (phH s (poH (phH s h)))) (k4).2.1 dL_isNext_365
                                                    · exfalso; first | contradiction | omega
                                                · exfalso; first | contradiction | omega
                                  · exfalso; first | contradiction | omega
                                · exfalso; first | contradiction | omega
                        · exfalso; first | contradiction | omega
                · exfalso; first | contradiction | omega
              · exfalso; first | contradiction | omega
          · have hicn : i < s.2.2.2.2.1 := by omega
            have hk9 := k.1.1.1.2.1 i (by omega)
            have hab0 := abF_le s (s.2.2.2.1 r) i
            have hab9 := abF_s s (s.2.2.2.1 r) i
            refine z_iload Z dL_isNext_59 5 rfl ?_
            refine z_sipush (v := 1000) Z dL_isNext_61 (by decide +kernel) ?_
            refine z_aload_n Z dL_isNext_64 0 rfl ?_
            refine z_aload_n Z dL_isNext_65 0 rfl ?_
            refine z_iload Z dL_isNext_66 6 rfl ?_
            refine z_callVw (rest := [.ref (A.1 0), zi 1000, zi ((abF s (s.2.2.2.1 r) i : Nat) : Int)]) Z dL_isNext_68 5 0 _ _ rfl rfl rfl (zc_X6_idAt l D ct (A.1 0) (A.1 1) (A.1 2) (A.1 3) (A.1 4) (A.1 5) (A.1 6) (A.1 7) (A.1 8) (A.1 9) (A.1 10) (A.1 11) (s.1) (s.2.1) (s.2.2.1) (s.2.2.2.1) (s.2.2.2.2.1) (s.2.2.2.2.2.1) (s.2.2.2.2.2.2.1) (s.2.2.2.2.2.2.2) (A.1 12) (A.1 13) (h.1) (h.2.1) (A.2.1) (A.2.2.2.1) (h.2.2) (A.2.2.1) (fl) (A.2.2.2.2) (qv) (tx) (len) (i) (k.1.1.1.1) (k.1.1.1.2.1) (k.1.1.1.2.2.1) (k.1.1.1.2.2.2.1) (k.1.1.2) (k.1.1.1.2.2.2.2) (k.2.1.1) (k.2.1.2) (hA.1) (hA.2) (k.2.2.1) (k.2.2.2.1) (k.2.2.2.2) (by first | assumption | omega)) rfl (cwV 1 Z.1.2.2.2.2 gL_isNext_X6_idAt rfl rfl rfl (by decide +kernel) ⟨Nat.le_of_ble_eq_true rfl, Nat.le_of_ble_eq_true rfl⟩) rfl (Nat.le_of_ble_eq_true rfl) ⟨Nat.le_of_ble_eq_true rfl, Nat.le_of_ble_eq_true rfl⟩ (fun _ => OW ct A s h fl qv tx len) (fun _ => [zi (if i < (s.2.2.2.2.1) then (((s.1) i % 1000 : Nat) : Int) else -2), .ref (A.1 0), zi 1000, zi ((abF s (s.2.2.2.1 r) i : Nat) : Int)]) (fun _ => rfl) rfl (fun _ => rfl) (fun _ _ => ?_)
            have hid9 := fo_id k.1 (k := i) (by omega)
            refine z_top (y := ((s.1 i % 1000 : Nat) : Int)) (by rw [if_pos (by omega)]) ?_
            refine z_callVw (rest := [zi 1000, zi ((abF s (s.2.2.2.1 r) i : Nat) : Int)]) Z dL_isNext_71 5 0 _ _ rfl rfl rfl (zc_X6_hashOf l D ct (A.1 0) (A.1 1) (A.1 2) (A.1 3) (A.1 4) (A.1 5) (A.1 6) (A.1 7) (A.1 8) (A.1 9) (A.1 10) (A.1 11) (s.1) (s.2.1) (s.2.2.1) (s.2.2.2.1) (s.2.2.2.2.1) (s.2.2.2.2.2.1) (s.2.2.2.2.2.2.1) (s.2.2.2.2.2.2.2) (A.1 12) (A.1 13) (h.1) (h.2.1) (A.2.1) (A.2.2.2.1) (h.2.2) (A.2.2.1) (fl) (A.2.2.2.2) (qv) (tx) (len) (((s.1 i % 1000 : Nat) : Int)) (k.1.1.1.1) (k.1.1.1.2.1) (k.1.1.1.2.2.1) (k.1.1.1.2.2.2.1) (k.1.1.2) (k.1.1.1.2.2.2.2) (k.2.1.1) (k.2.1.2) (hA.1) (hA.2) (k.2.2.1) (k.2.2.2.1) (k.2.2.2.2) (by first | assumption | omega) (by rw [hid9]; omega)) rfl (cwV 1 Z.1.2.2.2.2 gL_isNext_X6_hashOf rfl rfl rfl (by decide +kernel) ⟨Nat.le_of_ble_eq_true rfl, Nat.le_of_ble_eq_true rfl⟩) rfl (Nat.le_of_ble_eq_true rfl) ⟨Nat.le_of_ble_eq_true rfl, Nat.le_of_ble_eq_true rfl⟩ (fun _ => OW ct A s h fl qv tx len) (fun _ => [zi (((s.1) (foF (idP (s.1) ((s.1 i % 1000 : Nat) : Int)) (s.2.2.2.2.1)).toNat / 1000 : Nat) : Int), zi 1000, zi ((abF s (s.2.2.2.1 r) i : Nat) : Int)]) (fun _ => rfl) rfl (fun _ => rfl) (fun _ _ => ?_)
            refine z_top (y := ((s.1 i / 1000 : Nat) : Int)) (by rw [hid9] <;> rfl) ?_
            refine z_imul Z dL_isNext_74 ?_
            refine z_top (y := ((1000 * (s.1 i / 1000) : Nat) : Int)) (by omega) ?_
            refine z_aload_n Z dL_isNext_75 0 rfl ?_
            refine z_iload Z dL_isNext_76 6 rfl ?_
            refine z_callVw (rest := [zi ((1000 * (s.1 i / 1000) : Nat) : Int), zi ((abF s (s.2.2.2.1 r) i : Nat) : Int)]) Z dL_isNext_78 5 0 _ _ rfl rfl rfl (zc_X6_idAt l D ct (A.1 0) (A.1 1) (A.1 2) (A.1 3) (A.1 4) (A.1 5) (A.1 6) (A.1 7) (A.1 8) (A.1 9) (A.1 10) (A.1 11) (s.1) (s.2.1) (s.2.2.1) (s.2.2.2.1) (s.2.2.2.2.1) (s.2.2.2.2.2.1) (s.2.2.2.2.2.2.1) (s.2.2.2.2.2.2.2) (A.1 12) (A.1 13) (h.1) (h.2.1) (A.2.1) (A.2.2.2.1) (h.2.2) (A.2.2.1) (fl) (A.2.2.2.2) (qv) (tx) (len) (i) (k.1.1.1.1) (k.1.1.1.2.1) (k.1.1.1.2.2.1) (k.1.1.1.2.2.2.1) (k.1.1.2) (k.1.1.1.2.2.2.2) (k.2.1.1) (k.2.1.2) (hA.1) (hA.2) (k.2.2.1) (k.2.2.2.1) (k.2.2.2.2) (by first | assumption | omega)) rfl (cwV 1 Z.1.2.2.2.2 gL_isNext_X6_idAt rfl rfl rfl (by decide +kernel) ⟨Nat.le_of_ble_eq_true rfl, Nat.le_of_ble_eq_true rfl⟩) rfl (Nat.le_of_ble_eq_true rfl) ⟨Nat.le_of_ble_eq_true rfl, Nat.le_of_ble_eq_true rfl⟩ (fun _ => OW ct A s h fl qv tx len) (fun _ => [zi (if i < (s.2.2.2.2.1) then (((s.1) i % 1000 : Nat) : Int) else -2), zi ((1000 * (s.1 i / 1000) : Nat) : Int), zi ((abF s (s.2.2.2.1 r) i : Nat) : Int)]) (fun _ => rfl) rfl (fun _ => rfl) (fun _ _ => ?_)
            refine z_top (y := ((s.1 i % 1000 : Nat) : Int)) (by rw [if_pos (by omega)]) ?_
            refine z_iadd Z dL_isNext_81 ?_
            refine z_top (y := ((s.1 i : Nat) : Int)) (by omega) ?_
            refine z_iload_n Z dL_isNext_82 2 rfl ?_
            refine z_icmp_le Z 90 dL_isNext_83 (by decide) (by omega) (by omega) (fun h83 => ?_) (fun h83 => ?_)
            · rw [if_neg (by omega)] at hab9
              refine z_iconst (v := 0) Z dL_isNext_90 rfl ?_
              refine z_iadd Z dL_isNext_91 ?_
              refine z_top (y := (((abF s (s.2.2.2.1 r) i) + 0 : Nat) : Int)) (by omega) ?_
              refine z_istore Z dL_isNext_92 [(5, zi (((abF s (s.2.2.2.1 r) i) + 0 : Nat) : Int)), (0, .ref (A.1 0)), (1, zi ((r : Nat) : Int)), (2, zi ((s.2.2.2.1) r)), (3, zi ((s.2.2.2.2.1 - paV r s : Nat) : Int)), (4, zi ((s.1 (paV r s) % 1000 : Nat) : Int)), (6, zi ((i : Nat) : Int))] (by decide) rfl ?_
              refine z_iinc (v := ((i + 1 : Nat) : Int)) Z dL_isNext_94 6 [(6, zi ((i + 1 : Nat) : Int)), (5, zi (((abF s (s.2.2.2.1 r) i) + 0 : Nat) : Int)), (0, .ref (A.1 0)), (1, zi ((r : Nat) : Int)), (2, zi ((s.2.2.2.1) r)), (3, zi ((s.2.2.2.2.1 - paV r s : Nat) : Int)), (4, zi ((s.1 (paV r s) % 1000 : Nat) : Int))] rfl (by omega) (by decide) rfl ?_
              refine z_goto Z 50 dL_isNext_97 (by decide) ?_
              refine z_lsub [2, 3, 4, 5, 6, 1, 0] [(0, .ref (A.1 0)), (1, zi ((r : Nat) : Int)), (2, zi ((s.2.2.2.1) r)), (3, zi ((s.2.2.2.2.1 - paV r s : Nat) : Int)), (4, zi ((s.1 (paV r s) % 1000 : Nat) : Int)), (5, zi (((abF s (s.2.2.2.1 r) i) + 0 : Nat) : Int)), (6, zi ((i + 1 : Nat) : Int))] rfl ?_
              exact ih0 (i + 1) _ _ (by omega) (by omega) (by first | rfl | omega)  (by first | assumption | omega)
            · rw [if_pos (by omega)] at hab9
              refine z_iconst (v := 1) Z dL_isNext_86 rfl ?_
              refine z_goto Z 91 dL_isNext_87 (by decide) ?_
              refine z_iadd Z dL_isNext_91 ?_
              refine z_top (y := (((abF s (s.2.2.2.1 r) i) + 1 : Nat) : Int)) (by omega) ?_
              refine z_istore Z dL_isNext_92 [(5, zi (((abF s (s.2.2.2.1 r) i) + 1 : Nat) : Int)), (0, .ref (A.1 0)), (1, zi ((r : Nat) : Int)), (2, zi ((s.2.2.2.1) r)), (3, zi ((s.2.2.2.2.1 - paV r s : Nat) : Int)), (4, zi ((s.1 (paV r s) % 1000 : Nat) : Int)), (6, zi ((i : Nat) : Int))] (by decide) rfl ?_
              refine z_iinc (v := ((i + 1 : Nat) : Int)) Z dL_isNext_94 6 [(6, zi ((i + 1 : Nat) : Int)), (5, zi (((abF s (s.2.2.2.1 r) i) + 1 : Nat) : Int)), (0, .ref (A.1 0)), (1, zi ((r : Nat) : Int)), (2, zi ((s.2.2.2.1) r)), (3, zi ((s.2.2.2.2.1 - paV r s : Nat) : Int)), (4, zi ((s.1 (paV r s) % 1000 : Nat) : Int))] rfl (by omega) (by decide) rfl ?_
              refine z_goto Z 50 dL_isNext_97 (by decide) ?_
              refine z_lsub [2, 3, 4, 5, 6, 1, 0] [(0, .ref (A.1 0)), (1, zi ((r : Nat) : Int)), (2, zi ((s.2.2.2.1) r)), (3, zi ((s.2.2.2.2.1 - paV r s : Nat) : Int)), (4, zi ((s.1 (paV r s) % 1000 : Nat) : Int)), (5, zi (((abF s (s.2.2.2.1 r) i) + 1 : Nat) : Int)), (6, zi ((i + 1 : Nat) : Int))] rfl ?_
              exact ih0 (i + 1) _ _ (by omega) (by omega) (by first | rfl | omega)  (by first | assumption | omega)
      exact LOOP50 (s.2.2.2.2.1 + 1 - 0 + 1) 0 _ _ (Nat.lt_succ_self _) (rfl) (by first | rfl | omega)  (by first | assumption | omega)
    · exfalso; first | contradiction | omega
  · have hc40 : s.2.2.2.2.1 ≤ 40 := k.1.1.1.1
    have hple := paV_le r s
    have hele := elV_le r s
    have hpr9 := k.1.1.2 r hr
    refine z_aload_n Z dL_isNext_0 0 rfl ?_
    refine z_iload_n Z dL_isNext_1 1 rfl ?_
    refine z_callVw (rest := []) Z dL_isNext_2 5 0 _ _ rfl rfl rfl (zc_X6_position l D ct (A.1 0) (A.1 1) (A.1 2) (A.1 3) (A.1 4) (A.1 5) (A.1 6) (A.1 7) (A.1 8) (A.1 9) (A.1 10) (A.1 11) (s.1) (s.2.1) (s.2.2.1) (s.2.2.2.1) (s.2.2.2.2.1) (s.2.2.2.2.2.1) (s.2.2.2.2.2.2.1) (s.2.2.2.2.2.2.2) (A.1 12) (A.1 13) (h.1) (h.2.1) (A.2.1) (A.2.2.2.1) (h.2.2) (A.2.2.1) (fl) (A.2.2.2.2) (qv) (tx) (len) (r) (k.1.1.1.1) (k.1.1.1.2.1) (k.1.1.1.2.2.1) (k.1.1.1.2.2.2.1) (k.1.1.2) (k.1.1.1.2.2.2.2) (k.2.1.1) (k.2.1.2) (hA.1) (hA.2) (k.2.2.1) (k.2.2.2.1) (k.2.2.2.2) (hr)) rfl (cwV 1 Z.1.2.2.2.2 gL_isNext_X6_position rfl rfl rfl (by decide +kernel) ⟨Nat.le_of_ble_eq_true rfl, Nat.le_of_ble_eq_true rfl⟩) rfl (Nat.le_of_ble_eq_true rfl) ⟨Nat.le_of_ble_eq_true rfl, Nat.le_of_ble_eq_true rfl⟩ (fun _ => OW ct A s h fl qv tx len) (fun _ => [zi ((s.2.2.2.1) r)]) (fun _ => rfl) rfl (fun _ => rfl) (fun _ _ => ?_)
    refine z_istore_n Z dL_isNext_5 [(2, zi ((s.2.2.2.1) r)), (0, .ref (A.1 0)), (1, zi ((r : Nat) : Int))] (by decide) rfl ?_
    refine z_aload_n Z dL_isNext_6 1 rfl ?_
    refine z_iload_n Z dL_isNext_7 2 rfl ?_
    refine z_callVw (rest := []) Z dL_isNext_8 5 0 _ _ rfl rfl rfl (zc_X6_remaining l D ct (A.1 0) (A.1 1) (A.1 2) (A.1 3) (A.1 4) (A.1 5) (A.1 6) (A.1 7) (A.1 8) (A.1 9) (A.1 10) (A.1 11) (s.1) (s.2.1) (s.2.2.1) (s.2.2.2.1) (s.2.2.2.2.1) (s.2.2.2.2.2.1) (s.2.2.2.2.2.2.1) (s.2.2.2.2.2.2.2) (A.1 12) (A.1 13) (h.1) (h.2.1) (A.2.1) (A.2.2.2.1) (h.2.2) (A.2.2.1) (fl) (A.2.2.2.2) (qv) (tx) (len) (r) (k.1.1.1.1) (k.1.1.1.2.1) (k.1.1.1.2.2.1) (k.1.1.1.2.2.2.1) (k.1.1.2) (k.1.1.1.2.2.2.2) (k.2.1.1) (k.2.1.2) (hA.1) (hA.2) (k.2.2.1) (k.2.2.2.1) (k.2.2.2.2) (hr)) rfl (cwV 1 Z.1.2.2.2.2 gL_isNext_X6_remaining rfl rfl rfl (by decide +kernel) ⟨Nat.le_of_ble_eq_true rfl, Nat.le_of_ble_eq_true rfl⟩) rfl (Nat.le_of_ble_eq_true rfl) ⟨Nat.le_of_ble_eq_true rfl, Nat.le_of_ble_eq_true rfl⟩ (fun _ => OW ct A s h fl qv tx len) (fun _ => [zi (if (s.2.2.2.1) r = -2 then -2 else (((s.2.2.2.2.1) - paF (s.1) (s.2.2.2.2.1) ((s.2.2.2.1) r) : Nat) : Int))]) (fun _ => rfl) rfl (fun _ => rfl) (fun _ _ => ?_)
    refine z_top (y := 0) (by rw [if_neg hcl9]; have := hpa9; unfold paV at this; omega) ?_
    refine z_istore_n Z dL_isNext_11 [(3, zi 0), (2, zi ((s.2.2.2.1) r)), (0, .ref (A.1 0)), (1, zi ((r : Nat) : Int))] (by decide) rfl ?_
    refine z_aload_n Z dL_isNext_12 2 rfl ?_
    refine z_iload_n Z dL_isNext_13 3 rfl ?_
    refine z_callVw (rest := []) Z dL_isNext_14 5 0 _ _ rfl rfl rfl (zc_X6_peek l D ct (A.1 0) (A.1 1) (A.1 2) (A.1 3) (A.1 4) (A.1 5) (A.1 6) (A.1 7) (A.1 8) (A.1 9) (A.1 10) (A.1 11) (s.1) (s.2.1) (s.2.2.1) (s.2.2.2.1) (s.2.2.2.2.1) (s.2.2.2.2.2.1) (s.2.2.2.2.2.2.1) (s.2.2.2.2.2.2.2) (A.1 12) (A.1 13) (h.1) (h.2.1) (A.2.1) (A.2.2.2.1) (h.2.2) (A.2.2.1) (fl) (A.2.2.2.2) (qv) (tx) (len) (r) (k.1.1.1.1) (k.1.1.1.2.1) (k.1.1.1.2.2.1) (k.1.1.1.2.2.2.1) (k.1.1.2) (k.1.1.1.2.2.2.2) (k.2.1.1) (k.2.1.2) (hA.1) (hA.2) (k.2.2.1) (k.2.2.2.1) (k.2.2.2.2) (hr)) rfl (cwV 1 Z.1.2.2.2.2 gL_isNext_X6_peek rfl rfl rfl (by decide +kernel) ⟨Nat.le_of_ble_eq_true rfl, Nat.le_of_ble_eq_true rfl⟩) rfl (Nat.le_of_ble_eq_true rfl) ⟨Nat.le_of_ble_eq_true rfl, Nat.le_of_ble_eq_true rfl⟩ (fun _ => OW ct A s h fl qv tx len) (fun _ => [zi (if (s.2.2.2.1) r = -2 then -2 else if paF (s.1) (s.2.2.2.2.1) ((s.2.2.2.1) r) < (s.2.2.2.2.1) then (((s.1) (paF (s.1) (s.2.2.2.2.1) ((s.2.2.2.1) r)) % 1000 : Nat) : Int) else -2)]) (fun _ => rfl) rfl (fun _ => rfl) (fun _ _ => ?_)
    refine z_top (y := (-2)) (by rw [if_neg hcl9, if_neg (by have := hpa9; unfold paV at this; omega)]) ?_
    refine z_istore Z dL_isNext_17 [(4, zi (-2)), (3, zi 0), (2, zi ((s.2.2.2.1) r)), (0, .ref (A.1 0)), (1, zi ((r : Nat) : Int))] (by decide) rfl ?_
    refine z_iload_n Z dL_isNext_19 2 rfl ?_
    refine z_bipush (v := -2) Z dL_isNext_20 (by decide +kernel) ?_
    refine z_icmp_ne Z 44 dL_isNext_22 (by decide) (by omega) (by omega) (fun h22 => ?_) (fun h22 => ?_)
    · refine z_iconst (v := 0) Z dL_isNext_44 rfl ?_
      refine z_istore Z dL_isNext_45 [(5, zi 0), (4, zi (-2)), (3, zi 0), (2, zi ((s.2.2.2.1) r)), (0, .ref (A.1 0)), (1, zi ((r : Nat) : Int))] (by decide) rfl ?_
      refine z_iconst (v := 0) Z dL_isNext_47 rfl ?_
      refine z_istore Z dL_isNext_48 [(6, zi 0), (5, zi 0), (4, zi (-2)), (3, zi 0), (2, zi ((s.2.2.2.1) r)), (0, .ref (A.1 0)), (1, zi ((r : Nat) : Int))] (by decide) rfl ?_
      refine z_lsub [5, 6, 4, 3, 2, 1, 0] [(0, .ref (A.1 0)), (1, zi ((r : Nat) : Int)), (2, zi ((s.2.2.2.1) r)), (3, zi 0), (4, zi (-2)), (5, zi 0), (6, zi 0)] rfl ?_
      have LOOP50 : ∀ (N0 : Nat) (i : Nat) (x5 : Int) (x6 : Int), s.2.2.2.2.1 + 1 - i < N0 → x5 = ((abF s (s.2.2.2.1 r) i : Nat) : Int) → x6 = ((i : Nat) : Int) → (i ≤ s.2.2.2.2.1) → zW p l e ({ frames := 5, cells := 0, slots := 0, locals := 113 } : Room) s9 m ([.ref (A.1 0), zi ((r : Nat) : Int)] : List Value).toArray below meth c D A9 11 Q 0 0 (OW ct A s h fl qv tx len) [(0, .ref (A.1 0)), (1, zi ((r : Nat) : Int)), (2, zi ((s.2.2.2.1) r)), (3, zi 0), (4, zi (-2)), (5, zi x5), (6, zi x6)] 50 [] := by
        intro N0
        induction N0 with
        | zero => intro i x5 x6 hm0; exact absurd hm0 (Nat.not_lt_zero _)
        | succ N0 ih0 =>
          intro i x5 x6 hm0 ex5 ex6 hi
          subst ex5
          subst ex6
          refine z_iload Z dL_isNext_50 6 rfl ?_
          refine z_aload_n Z dL_isNext_52 0 rfl ?_
          refine z_callVw (rest := [zi ((i : Nat) : Int)]) Z dL_isNext_53 5 0 _ _ rfl rfl rfl (zc_X6_entries l D ct (A.1 0) (A.1 1) (A.1 2) (A.1 3) (A.1 4) (A.1 5) (A.1 6) (A.1 7) (A.1 8) (A.1 9) (A.1 10) (A.1 11) (s.1) (s.2.1) (s.2.2.1) (s.2.2.2.1) (s.2.2.2.2.1) (s.2.2.2.2.2.1) (s.2.2.2.2.2.2.1) (s.2.2.2.2.2.2.2) (A.1 12) (A.1 13) (h.1) (h.2.1) (A.2.1) (A.2.2.2.1) (h.2.2) (A.2.2.1) (fl) (A.2.2.2.2) (qv) (tx) (len) (k.1.1.1.1) (k.1.1.1.2.1) (k.1.1.1.2.2.1) (k.1.1.1.2.2.2.1) (k.1.1.2) (k.1.1.1.2.2.2.2) (k.2.1.1) (k.2.1.2) (hA.1) (hA.2) (k.2.2.1) (k.2.2.2.1) (k.2.2.2.2)) rfl (cwV 0 Z.1.2.2.2.2 gL_isNext_X6_entries rfl rfl rfl (by decide +kernel) ⟨Nat.le_of_ble_eq_true rfl, Nat.le_of_ble_eq_true rfl⟩) rfl (Nat.le_of_ble_eq_true rfl) ⟨Nat.le_of_ble_eq_true rfl, Nat.le_of_ble_eq_true rfl⟩ (fun _ => OW ct A s h fl qv tx len) (fun _ => [zi (((s.2.2.2.2.1) : Nat) : Int), zi ((i : Nat) : Int)]) (fun _ => rfl) rfl (fun _ => rfl) (fun _ _ => ?_)
          refine z_icmp_ge Z 100 dL_isNext_56 (by decide) (by omega) (by omega) (fun h56 => ?_) (fun h56 => ?_)
          · have hi9 : i = s.2.2.2.2.1 := by omega
            subst hi9
            have hab8 := abF_pa k.1 r
            refine z_iload_n Z dL_isNext_100 3 rfl ?_
            refine z_iload Z dL_isNext_101 5 rfl ?_
            refine z_icmp_ne Z 153 dL_isNext_103 (by decide) (by omega) (by omega) (fun h103 => ?_) (fun h103 => ?_)
            · exfalso; first | contradiction | omega
            · refine z_iload_n Z dL_isNext_106 3 rfl ?_
              refine z_if_ne Z 114 dL_isNext_107 (by decide) (by omega) (fun h107 => ?_) (fun h107 => ?_)
              · exfalso; first | contradiction | omega
              · refine z_iconst (v := 1) Z dL_isNext_110 rfl ?_
                refine z_goto Z 115 dL_isNext_111 (by decide) ?_
                refine z_iload Z dL_isNext_115 4 rfl ?_
                refine z_bipush (v := -2) Z dL_isNext_117 (by decide +kernel) ?_
                refine z_icmp_ne Z 126 dL_isNext_119 (by decide) (by omega) (by omega) (fun h119 => ?_) (fun h119 => ?_)
                · exfalso; first | contradiction | omega
                · refine z_iconst (v := 1) Z dL_isNext_122 rfl ?_
                  refine z_goto Z 127 dL_isNext_123 (by decide) ?_
                  refine z_icmp_ne Z 153 dL_isNext_127 (by decide) (by omega) (by omega) (fun h127 => ?_) (fun h127 => ?_)
                  · exfalso; first | contradiction | omega
                  · refine z_iload_n Z dL_isNext_130 3 rfl ?_
                    refine z_if_eq Z 149 dL_isNext_131 (by decide) (by omega) (fun h131 => ?_) (fun h131 => ?_)
                    · refine z_iconst (v := 1) Z dL_isNext_149 rfl ?_
                      refine z_goto Z 154 dL_isNext_150 (by decide) ?_
                      refine z_istore Z dL_isNext_154 [(6, zi 1), (0, .ref (A.1 0)), (1, zi ((r : Nat) : Int)), (2, zi ((s.2.2.2.1) r)), (3, zi 0), (4, zi (-2)), (5, zi ((abF s (s.2.2.2.1 r) s.2.2.2.2.1 : Nat) : Int))] (by decide) rfl ?_
                      refine z_aload_n Z dL_isNext_156 1 rfl ?_
                      refine z_callSw (rest := []) Z dL_isNext_157 (zc_L_told l D ct A s h fl qv tx len hA k) rfl (va_cwS 1 Z.1.2.2.2.2 gL_isNext_L_told rfl rfl rfl (by decide +kernel) ⟨Nat.le_of_ble_eq_true rfl, Nat.le_of_ble_eq_true rfl⟩) rfl (Nat.le_of_ble_eq_true rfl) ⟨Nat.le_of_ble_eq_true rfl, Nat.le_of_ble_eq_true rfl⟩ (fun _ => OW ct A s h fl qv tx len) (fun _ => [.long (tdF s)]) (fun _ => rfl) rfl (fun _ => rfl) (fun _ _ => ?_)
                      refine z_lstore Z dL_isNext_160 [(7, .long (tdF s)), (6, zi 1), (0, .ref (A.1 0)), (1, zi ((r : Nat) : Int)), (2, zi ((s.2.2.2.1) r)), (3, zi 0), (4, zi (-2)), (5, zi ((abF s (s.2.2.2.1 r) s.2.2.2.2.1 : Nat) : Int))] (by decide) rfl ?_
                      refine z_iload Z dL_isNext_162 6 rfl ?_
                      refine z_bipush (v := -2) Z dL_isNext_164 (by decide +kernel) ?_
                      refine z_icmp_ne Z 173 dL_isNext_166 (by decide) (by omega) (by omega) (fun h166 => ?_) (fun h166 => ?_)
                      · exfalso; first | contradiction | omega
                      · refine z_iconst (v := 0) Z dL_isNext_169 rfl ?_
                        refine z_goto Z 183 dL_isNext_170 (by decide) ?_
                        refine z_istore Z dL_isNext_183 [(9, zi 0), (7, .long (tdF s)), (6, zi 1), (0, .ref (A.1 0)), (1, zi ((r : Nat) : Int)), (2, zi ((s.2.2.2.1) r)), (3, zi 0), (4, zi (-2)), (5, zi ((abF s (s.2.2.2.1 r) s.2.2.2.2.1 : Nat) : Int))] (by decide) rfl ?_
                        refine z_aload_n Z dL_isNext_185 3 rfl ?_
                        refine z_iload_n Z dL_isNext_186 4 rfl ?_
                        refine z_callVw (rest := []) Z dL_isNext_187 5 0 _ _ rfl rfl rfl (zc_X6_readLeaf l D ct (A.1 0) (A.1 1) (A.1 2) (A.1 3) (A.1 4) (A.1 5) (A.1 6) (A.1 7) (A.1 8) (A.1 9) (A.1 10) (A.1 11) (s.1) (s.2.1) (s.2.2.1) (s.2.2.2.1) (s.2.2.2.2.1) (s.2.2.2.2.2.1) (s.2.2.2.2.2.2.1) (s.2.2.2.2.2.2.2) (A.1 12) (A.1 13) (h.1) (h.2.1) (A.2.1) (A.2.2.2.1) (h.2.2) (A.2.2.1) (fl) (A.2.2.2.2) (qv) (tx) (len) (r) (k.1.1.1.1) (k.1.1.1.2.1) (k.1.1.1.2.2.1) (k.1.1.1.2.2.2.1) (k.1.1.2) (k.1.1.1.2.2.2.2) (k.2.1.1) (k.2.1.2) (hA.1) (hA.2) (k.2.2.1) (k.2.2.2.1) (k.2.2.2.2) (hr) (hcl9) ((show elV r s ≤ paV r s from by have := elV_le r s; omega))) rfl (cwV 1 Z.1.2.2.2.2 gL_isNext_X6_readLeaf rfl rfl rfl (by decide +kernel) ⟨Nat.le_of_ble_eq_true rfl, Nat.le_of_ble_eq_true rfl⟩) rfl (Nat.le_of_ble_eq_true rfl) ⟨Nat.le_of_ble_eq_true rfl, Nat.le_of_ble_eq_true rfl⟩ (fun _ => OW ct A s (phH s h) fl qv tx len) (fun _ => [zi 0]) (fun _ => rfl) rfl (fun _ => rfl) (fun _ _ => ?_)
                        have k5 : okW s (phH s h) fl qv tx len := (k).st (k).1 (okH_ph _ (k).2.1)
                        refine z_istore Z dL_isNext_190 [(10, zi 0), (9, zi 0), (7, .long (tdF s)), (6, zi 1), (0, .ref (A.1 0)), (1, zi ((r : Nat) : Int)), (2, zi ((s.2.2.2.1) r)), (3, zi 0), (4, zi (-2)), (5, zi ((abF s (s.2.2.2.1 r) s.2.2.2.2.1 : Nat) : Int))] (by decide) rfl ?_
                        refine z_iload Z dL_isNext_192 3 rfl ?_
                        refine z_if_eq Z 265 dL_isNext_194 (by decide) (by omega) (fun h194 => ?_) (fun h194 => ?_)
                        · exfalso; first | contradiction | omega
                        · refine z_iload Z dL_isNext_197 0 rfl ?_
                          refine z_iload_n Z dL_isNext_199 7 rfl ?_
                          refine z_icmp_gt Z 265 dL_isNext_200 (by decide) (by omega) (by omega) (fun h200 => ?_) (fun h200 => ?_)
                          · exfalso; first | contradiction | omega
                          · refine z_iload Z dL_isNext_203 0 rfl ?_
                            refine z_iload Z dL_isNext_205 1 rfl ?_
                            refine z_icmp_gt Z 265 dL_isNext_207 (by decide) (by omega) (by omega) (fun h207 => ?_) (fun h207 => ?_)
                            · exfalso; first | contradiction | omega
                            · refine z_iload Z dL_isNext_210 0 rfl ?_
                              refine z_if_ne Z 219 dL_isNext_212 (by decide) (by omega) (fun h212 => ?_) (fun h212 => ?_)
                              · exfalso; first | contradiction | omega
                              · refine z_iconst (v := 1) Z dL_isNext_215 rfl ?_
                                refine z_goto Z 220 dL_isNext_216 (by decide) ?_
                                refine z_iload_n Z dL_isNext_220 7 rfl ?_
                                refine z_if_ne Z 228 dL_isNext_221 (by decide) (by omega) (fun h221 => ?_) (fun h221 => ?_)
                                · exfalso; first | contradiction | omega
                                · refine z_iconst (v := 1) Z dL_isNext_224 rfl ?_
                                  refine z_goto Z 229 dL_isNext_225 (by decide) ?_
                                  refine z_icmp_ne Z 265 dL_isNext_229 (by decide) (by omega) (by omega) (fun h229 => ?_) (fun h229 => ?_)
                                  · exfalso; first | contradiction | omega
                                  · refine z_aload_n Z dL_isNext_232 4 rfl ?_
                                    refine z_iload_n Z dL_isNext_233 5 rfl ?_
                                    refine z_callVw (rest := []) Z dL_isNext_234 5 0 _ _ rfl rfl rfl (zc_X6_remaining l D ct (A.1 0) (A.1 1) (A.1 2) (A.1 3) (A.1 4) (A.1 5) (A.1 6) (A.1 7) (A.1 8) (A.1 9) (A.1 10) (A.1 11) (s.1) (s.2.1) (s.2.2.1) (s.2.2.2.1) (s.2.2.2.2.1) (s.2.2.2.2.2.1) (s.2.2.2.2.2.2.1) (s.2.2.2.2.2.2.2) (A.1 12) (A.1 13) ((phH s h).1) ((phH s h).2.1) (A.2.1) (A.2.2.2.1) ((phH s h).2.2) (A.2.2.1) (fl) (A.2.2.2.2) (qv) (tx) (len) (r) (k5.1.1.1.1) (k5.1.1.1.2.1) (k5.1.1.1.2.2.1) (k5.1.1.1.2.2.2.1) (k5.1.1.2) (k5.1.1.1.2.2.2.2) (k5.2.1.1) (k5.2.1.2) (hA.1) (hA.2) (k5.2.2.1) (k5.2.2.2.1) (k5.2.2.2.2) (hr)) rfl (cwV 1 Z.1.2.2.2.2 gL_isNext_X6_remaining rfl rfl rfl (by decide +kernel) ⟨Nat.le_of_ble_eq_true rfl, Nat.le_of_ble_eq_true rfl⟩) rfl (Nat.le_of_ble_eq_true rfl) ⟨Nat.le_of_ble_eq_true rfl, Nat.le_of_ble_eq_true rfl⟩ (fun _ => OW ct A s (phH s h) fl qv tx len) (fun _ => [zi (if (s.2.2.2.1) r = -2 then -2 else (((s.2.2.2.2.1) - paF (s.1) (s.2.2.2.2.1) ((s.2.2.2.1) r) : Nat) : Int))]) (fun _ => rfl) rfl (fun _ => rfl) (fun _ _ => ?_)
                                    refine z_top (y := 0) (by rw [if_neg hcl9]; have := hpa9; unfold paV at this; omega) ?_
                                    refine z_iload_n Z dL_isNext_237 7 rfl ?_
                                    refine z_iload Z dL_isNext_238 0 rfl ?_
                                    refine z_isub Z dL_isNext_240 ?_
                                    refine z_top (y := 0) (by omega) ?_
                                    refine z_icmp_ne Z 265 dL_isNext_241 (by decide) (by omega) (by omega) (fun h241 => ?_) (fun h241 => ?_)
                                    · exfalso; first | contradiction | omega
                                    · refine z_aload_n Z dL_isNext_244 4 rfl ?_
                                      have hh9 : (phH s h).2.1 ≤ 6 := (okW.h9 k5)
                                      refine z_callVw (rest := []) Z dL_isNext_245 5 0 _ _ rfl rfl rfl (zc_X6_undo l D ct (A.1 0) (A.1 1) (A.1 2) (A.1 3) (A.1 4) (A.1 5) (A.1 6) (A.1 7) (A.1 8) (A.1 9) (A.1 10) (A.1 11) (s.1) (s.2.1) (s.2.2.1) (s.2.2.2.1) (s.2.2.2.2.1) (s.2.2.2.2.2.1) (s.2.2.2.2.2.2.1) (s.2.2.2.2.2.2.2) (A.1 12) (A.1 13) ((phH s h).1) ((phH s h).2.1) (A.2.1) (A.2.2.2.1) ((phH s h).2.2) (A.2.2.1) (fl) (A.2.2.2.2) (qv) (tx) (len) (k5.1.1.1.1) (k5.1.1.1.2.1) (k5.1.1.1.2.2.1) (k5.1.1.1.2.2.2.1) (k5.1.1.2) (k5.1.1.1.2.2.2.2) (k5.2.1.1) (k5.2.1.2) (hA.1) (hA.2) (k5.2.2.1) (k5.2.2.2.1) (k5.2.2.2.2) (hc_pos _ _)) rfl (cwV 0 Z.1.2.2.2.2 gL_isNext_X6_undo rfl rfl rfl (by decide +kernel) ⟨Nat.le_of_ble_eq_true rfl, Nat.le_of_ble_eq_true rfl⟩) rfl (Nat.le_of_ble_eq_true rfl) ⟨Nat.le_of_ble_eq_true rfl, Nat.le_of_ble_eq_true rfl⟩ (fun _ => OW ct A (toH (phH s h)) (poH (phH s h)) fl qv tx len) (fun _ => [zi ((((phH s h).2.1) - 1 : Nat) : Int)]) (fun _ => rfl) rfl (fun _ => rfl) (fun _ _ => ?_)
                                      refine z_eqs (OW ct A s (poH (phH s h)) fl qv tx len) _ _ (by rw [to_ph] <;> rfl) rfl rfl ?_
                                      have k6 : okW s (poH (phH s h)) fl qv tx len := (k5).st k.1 (okH_po (k5).2.1)
                                      refine z_if_lt Z 265 dL_isNext_248 (by decide) (by omega) (fun h248 => ?_) (fun h248 => ?_)
                                      · exfalso; first | contradiction | omega
                                      · refine z_aload_n Z dL_isNext_251 4 rfl ?_
                                        refine z_callSw (rest := []) Z dL_isNext_252 (zc_L_told l D ct A s (poH (phH s h)) fl qv tx len hA k6) rfl (va_cwS 1 Z.1.2.2.2.2 gL_isNext_L_told rfl rfl rfl (by decide +kernel) ⟨Nat.le_of_ble_eq_true rfl, Nat.le_of_ble_eq_true rfl⟩) rfl (Nat.le_of_ble_eq_true rfl) ⟨Nat.le_of_ble_eq_true rfl, Nat.le_of_ble_eq_true rfl⟩ (fun _ => OW ct A s (poH (phH s h)) fl qv tx len) (fun _ => [.long (tdF s)]) (fun _ => rfl) rfl (fun _ => rfl) (fun _ _ => ?_)
                                        refine z_lload Z dL_isNext_255 2 rfl ?_
                                        refine z_lcmp_eq Z dL_isNext_257 (rfl) ?_
                                        refine z_if_ne Z 265 dL_isNext_258 (by decide) (by omega) (fun h258 => ?_) (fun h258 => ?_)
                                        · exfalso; first | contradiction | omega
                                        · refine z_iconst (v := 1) Z dL_isNext_261 rfl ?_
                                          refine z_goto Z 266 dL_isNext_262 (by decide) ?_
                                          refine z_istore Z dL_isNext_266 [(6, zi 1), (10, zi 0), (9, zi 0), (7, .long (tdF s)), (0, .ref (A.1 0)), (1, zi ((r : Nat) : Int)), (2, zi ((s.2.2.2.1) r)), (3, zi 0), (4, zi (-2)), (5, zi ((abF s (s.2.2.2.1 r) s.2.2.2.2.1 : Nat) : Int))] (by decide) rfl ?_
                                          refine z_iload Z dL_isNext_268 0 rfl ?_
                                          refine z_if_eq Z 335 dL_isNext_270 (by decide) (by omega) (fun h270 => ?_) (fun h270 => ?_)
                                          · exfalso; first | contradiction | omega
                                          · refine z_aload_n Z dL_isNext_273 4 rfl ?_
                                            refine z_iload_n Z dL_isNext_274 5 rfl ?_
                                            refine z_callVw (rest := []) Z dL_isNext_275 5 0 _ _ rfl rfl rfl (zc_X6_next l D ct (A.1 0) (A.1 1) (A.1 2) (A.1 3) (A.1 4) (A.1 5) (A.1 6) (A.1 7) (A.1 8) (A.1 9) (A.1 10) (A.1 11) (s.1) (s.2.1) (s.2.2.1) (s.2.2.2.1) (s.2.2.2.2.1) (s.2.2.2.2.2.1) (s.2.2.2.2.2.2.1) (s.2.2.2.2.2.2.2) (A.1 12) (A.1 13) ((poH (phH s h)).1) ((poH (phH s h)).2.1) (A.2.1) (A.2.2.2.1) ((poH (phH s h)).2.2) (A.2.2.1) (fl) (A.2.2.2.2) (qv) (tx) (len) (r) (k6.1.1.1.1) (k6.1.1.1.2.1) (k6.1.1.1.2.2.1) (k6.1.1.1.2.2.2.1) (k6.1.1.2) (k6.1.1.1.2.2.2.2) (k6.2.1.1) (k6.2.1.2) (hA.1) (hA.2) (k6.2.2.1) (k6.2.2.2.1) (k6.2.2.2.2) (hr) (hcl9) ((show paV r s = s.2.2.2.2.1 from by have := paV_le r s; omega))) rfl (cwV 1 Z.1.2.2.2.2 gL_isNext_X6_next rfl rfl rfl (by decide +kernel) ⟨Nat.le_of_ble_eq_true rfl, Nat.le_of_ble_eq_true rfl⟩) rfl (Nat.le_of_ble_eq_true rfl) ⟨Nat.le_of_ble_eq_true rfl, Nat.le_of_ble_eq_true rfl⟩ (fun _ => OW ct A s (phH s (poH (phH s h))) fl qv tx len) (fun _ => [zi (-2)]) (fun _ => rfl) rfl (fun _ => rfl) (fun _ _ => ?_)
                                            have k7 : okW s (phH s (poH (phH s h))) fl qv tx len := (k6).st (k6).1 (okH_ph _ (k6).2.1)
                                            refine z_iload Z dL_isNext_278 8 rfl ?_
                                            refine z_icmp_ne Z 335 dL_isNext_280 (by decide) (by omega) (by omega) (fun h280 => ?_) (fun h280 => ?_)
                                            · exfalso; first | contradiction | omega
                                            · refine z_aload_n Z dL_isNext_283 4 rfl ?_
                                              refine z_iload_n Z dL_isNext_284 5 rfl ?_
                                              refine z_callVw (rest := []) Z dL_isNext_285 5 0 _ _ rfl rfl rfl (zc_X6_remaining l D ct (A.1 0) (A.1 1) (A.1 2) (A.1 3) (A.1 4) (A.1 5) (A.1 6) (A.1 7) (A.1 8) (A.1 9) (A.1 10) (A.1 11) (s.1) (s.2.1) (s.2.2.1) (s.2.2.2.1) (s.2.2.2.2.1) (s.2.2.2.2.2.1) (s.2.2.2.2.2.2.1) (s.2.2.2.2.2.2.2) (A.1 12) (A.1 13) ((phH s (poH (phH s h))).1) ((phH s (poH (phH s h))).2.1) (A.2.1) (A.2.2.2.1) ((phH s (poH (phH s h))).2.2) (A.2.2.1) (fl) (A.2.2.2.2) (qv) (tx) (len) (r) (k7.1.1.1.1) (k7.1.1.1.2.1) (k7.1.1.1.2.2.1) (k7.1.1.1.2.2.2.1) (k7.1.1.2) (k7.1.1.1.2.2.2.2) (k7.2.1.1) (k7.2.1.2) (hA.1) (hA.2) (k7.2.2.1) (k7.2.2.2.1) (k7.2.2.2.2) (hr)) rfl (cwV 1 Z.1.2.2.2.2 gL_isNext_X6_remaining rfl rfl rfl (by decide +kernel) ⟨Nat.le_of_ble_eq_true rfl, Nat.le_of_ble_eq_true rfl⟩) rfl (Nat.le_of_ble_eq_true rfl) ⟨Nat.le_of_ble_eq_true rfl, Nat.le_of_ble_eq_true rfl⟩ (fun _ => OW ct A s (phH s (poH (phH s h))) fl qv tx len) (fun _ => [zi (if (s.2.2.2.1) r = -2 then -2 else (((s.2.2.2.2.1) - paF (s.1) (s.2.2.2.2.1) ((s.2.2.2.1) r) : Nat) : Int))]) (fun _ => rfl) rfl (fun _ => rfl) (fun _ _ => ?_)
                                              refine z_top (y := 0) (by rw [if_neg hcl9]; have := hpa9; unfold paV at this; omega) ?_
                                              refine z_iload_n Z dL_isNext_288 7 rfl ?_
                                              refine z_if_ne Z 296 dL_isNext_289 (by decide) (by omega) (fun h289 => ?_) (fun h289 => ?_)
                                              · exfalso; first | contradiction | omega
                                              · refine z_iconst (v := 0) Z dL_isNext_292 rfl ?_
                                                refine z_goto Z 299 dL_isNext_293 (by decide) ?_
                                                refine z_icmp_ne Z 335 dL_isNext_299 (by decide) (by omega) (by omega) (fun h299 => ?_) (fun h299 => ?_)
                                                · exfalso; first | contradiction | omega
                                                · refine z_aload_n Z dL_isNext_302 4 rfl ?_
                                                  refine z_iload_n Z dL_isNext_303 5 rfl ?_
                                                  refine z_callVw (rest := []) Z dL_isNext_304 5 0 _ _ rfl rfl rfl (zc_X6_position l D ct (A.1 0) (A.1 1) (A.1 2) (A.1 3) (A.1 4) (A.1 5) (A.1 6) (A.1 7) (A.1 8) (A.1 9) (A.1 10) (A.1 11) (s.1) (s.2.1) (s.2.2.1) (s.2.2.2.1) (s.2.2.2.2.1) (s.2.2.2.2.2.1) (s.2.2.2.2.2.2.1) (s.2.2.2.2.2.2.2) (A.1 12) (A.1 13) ((phH s (poH (phH s h))).1) ((phH s (poH (phH s h))).2.1) (A.2.1) (A.2.2.2.1) ((phH s (poH (phH s h))).2.2) (A.2.2.1) (fl) (A.2.2.2.2) (qv) (tx) (len) (r) (k7.1.1.1.1) (k7.1.1.1.2.1) (k7.1.1.1.2.2.1) (k7.1.1.1.2.2.2.1) (k7.1.1.2) (k7.1.1.1.2.2.2.2) (k7.2.1.1) (k7.2.1.2) (hA.1) (hA.2) (k7.2.2.1) (k7.2.2.2.1) (k7.2.2.2.2) (hr)) rfl (cwV 1 Z.1.2.2.2.2 gL_isNext_X6_position rfl rfl rfl (by decide +kernel) ⟨Nat.le_of_ble_eq_true rfl, Nat.le_of_ble_eq_true rfl⟩) rfl (Nat.le_of_ble_eq_true rfl) ⟨Nat.le_of_ble_eq_true rfl, Nat.le_of_ble_eq_true rfl⟩ (fun _ => OW ct A s (phH s (poH (phH s h))) fl qv tx len) (fun _ => [zi ((s.2.2.2.1) r)]) (fun _ => rfl) rfl (fun _ => rfl) (fun _ _ => ?_)
                                                  refine z_iload_n Z dL_isNext_307 7 rfl ?_
                                                  refine z_if_ne Z 315 dL_isNext_308 (by decide) (by omega) (fun h308 => ?_) (fun h308 => ?_)
                                                  · exfalso; first | contradiction | omega
                                                  · refine z_iload_n Z dL_isNext_311 6 rfl ?_
                                                    refine z_goto Z 328 dL_isNext_312 (by decide) ?_
                                                    refine z_icmp_ne Z 335 dL_isNext_328 (by decide) (by omega) (by omega) (fun h328 => ?_) (fun h328 => ?_)
                                                    · exfalso; first | contradiction | omega
                                                    · refine z_iconst (v := 1) Z dL_isNext_331 rfl ?_
                                                      refine z_goto Z 336 dL_isNext_332 (by decide) ?_
                                                      refine z_istore Z dL_isNext_336 [(6, zi 1), (10, zi 0), (9, zi 0), (7, .long (tdF s)), (0, .ref (A.1 0)), (1, zi ((r : Nat) : Int)), (2, zi ((s.2.2.2.1) r)), (3, zi 0), (4, zi (-2)), (5, zi ((abF s (s.2.2.2.1 r) s.2.2.2.2.1 : Nat) : Int))] (by decide) rfl ?_
                                                      refine z_iload Z dL_isNext_338 0 rfl ?_
                                                      refine z_if_eq Z 364 dL_isNext_340 (by decide) (by omega) (fun h340 => ?_) (fun h340 => ?_)
                                                      · exfalso; first | contradiction | omega
                                                      · refine z_aload_n Z dL_isNext_343 4 rfl ?_
                                                        have hh9 : (phH s (poH (phH s h))).2.1 ≤ 6 := (okW.h9 k7)
                                                        refine z_callVw (rest := []) Z dL_isNext_344 5 0 _ _ rfl rfl rfl (zc_X6_undo l D ct (A.1 0) (A.1 1) (A.1 2) (A.1 3) (A.1 4) (A.1 5) (A.1 6) (A.1 7) (A.1 8) (A.1 9) (A.1 10) (A.1 11) (s.1) (s.2.1) (s.2.2.1) (s.2.2.2.1) (s.2.2.2.2.1) (s.2.2.2.2.2.1) (s.2.2.2.2.2.2.1) (s.2.2.2.2.2.2.2) (A.1 12) (A.1 13) ((phH s (poH (phH s h))).1) ((phH s (poH (phH s h))).2.1) (A.2.1) (A.2.2.2.1) ((phH s (poH (phH s h))).2.2) (A.2.2.1) (fl) (A.2.2.2.2) (qv) (tx) (len) (k7.1.1.1.1) (k7.1.1.1.2.1) (k7.1.1.1.2.2.1) (k7.1.1.1.2.2.2.1) (k7.1.1.2) (k7.1.1.1.2.2.2.2) (k7.2.1.1) (k7.2.1.2) (hA.1) (hA.2) (k7.2.2.1) (k7.2.2.2.1) (k7.2.2.2.2) (hc_pos _ _)) rfl (cwV 0 Z.1.2.2.2.2 gL_isNext_X6_undo rfl rfl rfl (by decide +kernel) ⟨Nat.le_of_ble_eq_true rfl, Nat.le_of_ble_eq_true rfl⟩) rfl (Nat.le_of_ble_eq_true rfl) ⟨Nat.le_of_ble_eq_true rfl, Nat.le_of_ble_eq_true rfl⟩ (fun _ => OW ct A (toH (phH s (poH (phH s h)))) (poH (phH s (poH (phH s h)))) fl qv tx len) (fun _ => [zi ((((phH s (poH (phH s h))).2.1) - 1 : Nat) : Int)]) (fun _ => rfl) rfl (fun _ => rfl) (fun _ _ => ?_)
                                                        refine z_eqs (OW ct A s (poH (phH s (poH (phH s h)))) fl qv tx len) _ _ (by rw [to_ph] <;> rfl) rfl rfl ?_
                                                        have k8 : okW s (poH (phH s (poH (phH s h)))) fl qv tx len := (k7).st k.1 (okH_po (k7).2.1)
                                                        refine z_if_lt Z 364 dL_isNext_347 (by decide) (by omega) (fun h347 => ?_) (fun h347 => ?_)
                                                        · exfalso; first | contradiction | omega
                                                        · refine z_aload_n Z dL_isNext_350 4 rfl ?_
                                                          refine z_callSw (rest := []) Z dL_isNext_351 (zc_L_told l D ct A s (poH (phH s (poH (phH s h)))) fl qv tx len hA k8) rfl (va_cwS 1 Z.1.2.2.2.2 gL_isNext_L_told rfl rfl rfl (by decide +kernel) ⟨Nat.le_of_ble_eq_true rfl, Nat.le_of_ble_eq_true rfl⟩) rfl (Nat.le_of_ble_eq_true rfl) ⟨Nat.le_of_ble_eq_true rfl, Nat.le_of_ble_eq_true rfl⟩ (fun _ => OW ct A s (poH (phH s (poH (phH s h)))) fl qv tx len) (fun _ => [.long (tdF s)]) (fun _ => rfl) rfl (fun _ => rfl) (fun _ _ => ?_)
                                                          refine z_lload Z dL_isNext_354 3 rfl ?_
                                                          refine z_lcmp_eq Z dL_isNext_356 (rfl) ?_
                                                          refine z_if_ne Z 364 dL_isNext_357 (by decide) (by omega) (fun h357 => ?_) (fun h357 => ?_)
                                                          · exfalso; first | contradiction | omega
                                                          · refine z_iconst (v := 1) Z dL_isNext_360 rfl ?_
                                                            refine z_goto Z 365 dL_isNext_361 (by decide) ?_
                                                            refine z_eqs (OW ct A s (poH (phH s (poH (phH s h)))) fl qv tx len) _ [zi 1] (rfl) rfl (rfl) ?_
                                                            exact hR _ _ (poH (phH s (poH (phH s h)))) (k8).2.1 dL_isNext_365
                    · exfalso; first | contradiction | omega
          · have hicn : i < s.2.2.2.2.1 := by omega
            have hk9 := k.1.1.1.2.1 i (by omega)
            have hab0 := abF_le s (s.2.2.2.1 r) i
            have hab9 := abF_s s (s.2.2.2.1 r) i
            refine z_iload Z dL_isNext_59 5 rfl ?_
            refine z_sipush (v := 1000) Z dL_isNext_61 (by decide +kernel) ?_
            refine z_aload_n Z dL_isNext_64 0 rfl ?_
            refine z_aload_n Z dL_isNext_65 0 rfl ?_
            refine z_iload Z dL_isNext_66 6 rfl ?_
            refine z_callVw (rest := [.ref (A.1 0), zi 1000, zi ((abF s (s.2.2.2.1 r) i : Nat) : Int)]) Z dL_isNext_68 5 0 _ _ rfl rfl rfl (zc_X6_idAt l D ct (A.1 0) (A.1 1) (A.1 2) (A.1 3) (A.1 4) (A.1 5) (A.1 6) (A.1 7) (A.1 8) (A.1 9) (A.1 10) (A.1 11) (s.1) (s.2.1) (s.2.2.1) (s.2.2.2.1) (s.2.2.2.2.1) (s.2.2.2.2.2.1) (s.2.2.2.2.2.2.1) (s.2.2.2.2.2.2.2) (A.1 12) (A.1 13) (h.1) (h.2.1) (A.2.1) (A.2.2.2.1) (h.2.2) (A.2.2.1) (fl) (A.2.2.2.2) (qv) (tx) (len) (i) (k.1.1.1.1) (k.1.1.1.2.1) (k.1.1.1.2.2.1) (k.1.1.1.2.2.2.1) (k.1.1.2) (k.1.1.1.2.2.2.2) (k.2.1.1) (k.2.1.2) (hA.1) (hA.2) (k.2.2.1) (k.2.2.2.1) (k.2.2.2.2) (by first | assumption | omega)) rfl (cwV 1 Z.1.2.2.2.2 gL_isNext_X6_idAt rfl rfl rfl (by decide +kernel) ⟨Nat.le_of_ble_eq_true rfl, Nat.le_of_ble_eq_true rfl⟩) rfl (Nat.le_of_ble_eq_true rfl) ⟨Nat.le_of_ble_eq_true rfl, Nat.le_of_ble_eq_true rfl⟩ (fun _ => OW ct A s h fl qv tx len) (fun _ => [zi (if i < (s.2.2.2.2.1) then (((s.1) i % 1000 : Nat) : Int) else -2), .ref (A.1 0), zi 1000, zi ((abF s (s.2.2.2.1 r) i : Nat) : Int)]) (fun _ => rfl) rfl (fun _ => rfl) (fun _ _ => ?_)
            have hid9 := fo_id k.1 (k := i) (by omega)
            refine z_top (y := ((s.1 i % 1000 : Nat) : Int)) (by rw [if_pos (by omega)]) ?_
            refine z_callVw (rest := [zi 1000, zi ((abF s (s.2.2.2.1 r) i : Nat) : Int)]) Z dL_isNext_71 5 0 _ _ rfl rfl rfl (zc_X6_hashOf l D ct (A.1 0) (A.1 1) (A.1 2) (A.1 3) (A.1 4) (A.1 5) (A.1 6) (A.1 7) (A.1 8) (A.1 9) (A.1 10) (A.1 11) (s.1) (s.2.1) (s.2.2.1) (s.2.2.2.1) (s.2.2.2.2.1) (s.2.2.2.2.2.1) (s.2.2.2.2.2.2.1) (s.2.2.2.2.2.2.2) (A.1 12) (A.1 13) (h.1) (h.2.1) (A.2.1) (A.2.2.2.1) (h.2.2) (A.2.2.1) (fl) (A.2.2.2.2) (qv) (tx) (len) (((s.1 i % 1000 : Nat) : Int)) (k.1.1.1.1) (k.1.1.1.2.1) (k.1.1.1.2.2.1) (k.1.1.1.2.2.2.1) (k.1.1.2) (k.1.1.1.2.2.2.2) (k.2.1.1) (k.2.1.2) (hA.1) (hA.2) (k.2.2.1) (k.2.2.2.1) (k.2.2.2.2) (by first | assumption | omega) (by rw [hid9]; omega)) rfl (cwV 1 Z.1.2.2.2.2 gL_isNext_X6_hashOf rfl rfl rfl (by decide +kernel) ⟨Nat.le_of_ble_eq_true rfl, Nat.le_of_ble_eq_true rfl⟩) rfl (Nat.le_of_ble_eq_true rfl) ⟨Nat.le_of_ble_eq_true rfl, Nat.le_of_ble_eq_true rfl⟩ (fun _ => OW ct A s h fl qv tx len) (fun _ => [zi (((s.1) (foF (idP (s.1) ((s.1 i % 1000 : Nat) : Int)) (s.2.2.2.2.1)).toNat / 1000 : Nat) : Int), zi 1000, zi ((abF s (s.2.2.2.1 r) i : Nat) : Int)]) (fun _ => rfl) rfl (fun _ => rfl) (fun _ _ => ?_)
            refine z_top (y := ((s.1 i / 1000 : Nat) : Int)) (by rw [hid9] <;> rfl) ?_
            refine z_imul Z dL_isNext_74 ?_
            refine z_top (y := ((1000 * (s.1 i / 1000) : Nat) : Int)) (by omega) ?_
            refine z_aload_n Z dL_isNext_75 0 rfl ?_
            refine z_iload Z dL_isNext_76 6 rfl ?_
            refine z_callVw (rest := [zi ((1000 * (s.1 i / 1000) : Nat) : Int), zi ((abF s (s.2.2.2.1 r) i : Nat) : Int)]) Z dL_isNext_78 5 0 _ _ rfl rfl rfl (zc_X6_idAt l D ct (A.1 0) (A.1 1) (A.1 2) (A.1 3) (A.1 4) (A.1 5) (A.1 6) (A.1 7) (A.1 8) (A.1 9) (A.1 10) (A.1 11) (s.1) (s.2.1) (s.2.2.1) (s.2.2.2.1) (s.2.2.2.2.1) (s.2.2.2.2.2.1) (s.2.2.2.2.2.2.1) (s.2.2.2.2.2.2.2) (A.1 12) (A.1 13) (h.1) (h.2.1) (A.2.1) (A.2.2.2.1) (h.2.2) (A.2.2.1) (fl) (A.2.2.2.2) (qv) (tx) (len) (i) (k.1.1.1.1) (k.1.1.1.2.1) (k.1.1.1.2.2.1) (k.1.1.1.2.2.2.1) (k.1.1.2) (k.1.1.1.2.2.2.2) (k.2.1.1) (k.2.1.2) (hA.1) (hA.2) (k.2.2.1) (k.2.2.2.1) (k.2.2.2.2) (by first | assumption | omega)) rfl (cwV 1 Z.1.2.2.2.2 gL_isNext_X6_idAt rfl rfl rfl (by decide +kernel) ⟨Nat.le_of_ble_eq_true rfl, Nat.le_of_ble_eq_true rfl⟩) rfl (Nat.le_of_ble_eq_true rfl) ⟨Nat.le_of_ble_eq_true rfl, Nat.le_of_ble_eq_true rfl⟩ (fun _ => OW ct A s h fl qv tx len) (fun _ => [zi (if i < (s.2.2.2.2.1) then (((s.1) i % 1000 : Nat) : Int) else -2), zi ((1000 * (s.1 i / 1000) : Nat) : Int), zi ((abF s (s.2.2.2.1 r) i : Nat) : Int)]) (fun _ => rfl) rfl (fun _ => rfl) (fun _ _ => ?_)
            refine z_top (y := ((s.1 i % 1000 : Nat) : Int)) (by rw [if_pos (by omega)]) ?_
            refine z_iadd Z dL_isNext_81 ?_
            refine z_top (y := ((s.1 i : Nat) : Int)) (by omega) ?_
            refine z_iload_n Z dL_isNext_82 2 rfl ?_
            refine z_icmp_le Z 90 dL_isNext_83 (by decide) (by omega) (by omega) (fun h83 => ?_) (fun h83 => ?_)
            · rw [if_neg (by omega)] at hab9
              refine z_iconst (v := 0) Z dL_isNext_90 rfl ?_
              refine z_iadd Z dL_isNext_91 ?_
              refine z_top (y := (((abF s (s.2.2.2.1 r) i) + 0 : Nat) : Int)) (by omega) ?_
              refine z_istore Z dL_isNext_92 [(5, zi (((abF s (s.2.2.2.1 r) i) + 0 : Nat) : Int)), (0, .ref (A.1 0)), (1, zi ((r : Nat) : Int)), (2, zi ((s.2.2.2.1) r)), (3, zi 0), (4, zi (-2)), (6, zi ((i : Nat) : Int))] (by decide) rfl ?_
              refine z_iinc (v := ((i + 1 : Nat) : Int)) Z dL_isNext_94 6 [(6, zi ((i + 1 : Nat) : Int)), (5, zi (((abF s (s.2.2.2.1 r) i) + 0 : Nat) : Int)), (0, .ref (A.1 0)), (1, zi ((r : Nat) : Int)), (2, zi ((s.2.2.2.1) r)), (3, zi 0), (4, zi (-2))] rfl (by omega) (by decide) rfl ?_
              refine z_goto Z 50 dL_isNext_97 (by decide) ?_
              refine z_lsub [2, 3, 4, 5, 6, 1, 0] [(0, .ref (A.1 0)), (1, zi ((r : Nat) : Int)), (2, zi ((s.2.2.2.1) r)), (3, zi 0), (4, zi (-2)), (5, zi (((abF s (s.2.2.2.1 r) i) + 0 : Nat) : Int)), (6, zi ((i + 1 : Nat) : Int))] rfl ?_
              exact ih0 (i + 1) _ _ (by omega) (by omega) (by first | rfl | omega)  (by first | assumption | omega)
            · rw [if_pos (by omega)] at hab9
              refine z_iconst (v := 1) Z dL_isNext_86 rfl ?_
              refine z_goto Z 91 dL_isNext_87 (by decide) ?_
              refine z_iadd Z dL_isNext_91 ?_
              refine z_top (y := (((abF s (s.2.2.2.1 r) i) + 1 : Nat) : Int)) (by omega) ?_
              refine z_istore Z dL_isNext_92 [(5, zi (((abF s (s.2.2.2.1 r) i) + 1 : Nat) : Int)), (0, .ref (A.1 0)), (1, zi ((r : Nat) : Int)), (2, zi ((s.2.2.2.1) r)), (3, zi 0), (4, zi (-2)), (6, zi ((i : Nat) : Int))] (by decide) rfl ?_
              refine z_iinc (v := ((i + 1 : Nat) : Int)) Z dL_isNext_94 6 [(6, zi ((i + 1 : Nat) : Int)), (5, zi (((abF s (s.2.2.2.1 r) i) + 1 : Nat) : Int)), (0, .ref (A.1 0)), (1, zi ((r : Nat) : Int)), (2, zi ((s.2.2.2.1) r)), (3, zi 0), (4, zi (-2))] rfl (by omega) (by decide) rfl ?_
              refine z_goto Z 50 dL_isNext_97 (by decide) ?_
              refine z_lsub [2, 3, 4, 5, 6, 1, 0] [(0, .ref (A.1 0)), (1, zi ((r : Nat) : Int)), (2, zi ((s.2.2.2.1) r)), (3, zi 0), (4, zi (-2)), (5, zi (((abF s (s.2.2.2.1 r) i) + 1 : Nat) : Int)), (6, zi ((i + 1 : Nat) : Int))] rfl ?_
              exact ih0 (i + 1) _ _ (by omega) (by omega) (by first | rfl | omega)  (by first | assumption | omega)
      exact LOOP50 (s.2.2.2.2.1 + 1 - 0 + 1) 0 _ _ (Nat.lt_succ_self _) (rfl) (by first | rfl | omega)  (by first | assumption | omega)
    · exfalso; first | contradiction | omega
