/-! objects as they are made -/
theorem zp_new {α : Type} {E T N : List α} : ((E ++ T) ++ N).Perm ((E ++ N) ++ T) := by
  rw [List.append_assoc, List.append_assoc]
  exact List.Perm.append_left _ List.perm_append_comm
theorem zp_mid {α : Type} {A E T : List α} : (A ++ (E ++ T)).Perm ((E ++ A) ++ T) := by
  rw [← List.append_assoc]
  exact List.Perm.append_right _ List.perm_append_comm
theorem zp_tail {α : Type} {A E T : List α} : ((A ++ T) ++ E).Perm ((E ++ A) ++ T) := by
  rw [List.append_assoc E A T]
  exact List.perm_append_comm
theorem zp_in {α : Type} {A E T T9 : List α} (h : T ++ A = T9) : ((E ++ A) ++ T).Perm (E ++ T9) := by
  rw [← h, List.append_assoc]
  exact List.Perm.append_left _ List.perm_append_comm
theorem zp_in2 {α : Type} {A E H T T9 : List α} (h : T ++ A = T9) : ((E ++ A) ++ (H ++ T)).Perm (E ++ (H ++ T9)) := by
  rw [← h, List.append_assoc, ← List.append_assoc H T A]
  exact List.Perm.append_left _ List.perm_append_comm
theorem zp_push {α : Type} {A E T T9 : List α} (h : T ++ A = T9) : (A ++ (E ++ T)).Perm (E ++ T9) := by
  rw [← h, ← List.append_assoc E T A]
  exact List.perm_append_comm
theorem zp_push2 {α : Type} {A E H T T9 : List α} (h : T ++ A = T9) : (A ++ (E ++ (H ++ T))).Perm (E ++ (H ++ T9)) := by
  rw [← h, ← List.append_assoc H T A, ← List.append_assoc E (H ++ T) A]
  exact List.perm_append_comm
theorem zp_swap {α : Type} {P B C T : List α} : ((P ++ (B ++ C)) ++ T).Perm ((P ++ (C ++ B)) ++ T) :=
  List.Perm.append_right _ (List.Perm.append_left _ List.perm_append_comm)
theorem stR_push (ct : zCT) (ra : Nat → Nat → Nat) (i : Nat) (a : Nat → Nat) (v : StV) : stR ct ra (fun _ => v) (List.range i) ++ stC ct a v = stR ct (zU ra i a) (fun _ => v) (List.range (i + 1)) := by
  unfold stR
  rw [List.range_succ, List.flatMap_append, List.flatMap_singleton, zU_s]
  congr 1
  rw [List.flatMap_def, List.flatMap_def]
  congr 1
  refine List.map_congr_left (fun j hj => ?_)
  have := List.mem_range.mp hj
  rw [zU_n _ _ (by omega)]
theorem zU_ff {ff : Nat → Option Nat} {ra : Nat → Nat → Nat} {i : Nat} {u : Nat → Nat} (h : ∀ k, k < i → ff k = some (ra k 0)) : ∀ k, k < i + 1 → zU ff i (some (u 0)) k = some (zU ra i u k 0) := by
  intro k hk
  by_cases h9 : k = i
  · subst h9; rw [zU_s, zU_s]
  · rw [zU_n _ _ h9, zU_n _ _ h9]; exact h k (by omega)
def ps0 (i : Nat) : Nat → Int := fun j => if j < i then -2 else 0
theorem ps0_0 : (fun _ => 0) = ps0 0 := by funext j; unfold ps0; rw [if_neg (by omega)]
theorem ps0_s (i : Nat) : zU (ps0 i) i (-2) = ps0 (i + 1) := by
  funext j
  unfold zU ps0
  by_cases h : j = i
  · rw [if_pos h, if_pos (by omega)]
  · rw [if_neg h]
    by_cases h2 : j < i
    · rw [if_pos h2, if_pos (by omega)]
    · rw [if_neg h2, if_neg (by omega)]
def m0F (i : Nat) : Nat → Int := fun j => if 4 ≤ j ∧ j < 4 + i then -2 else 0
theorem m0F_0 : (fun _ => 0) = m0F 0 := by funext j; unfold m0F; rw [if_neg (by omega)]
theorem m0F_s (i : Nat) : zU (m0F i) (4 + i) (-2) = m0F (i + 1) := by
  funext j
  unfold zU m0F
  by_cases h : j = 4 + i
  · rw [if_pos h, if_pos (by omega)]
  · rw [if_neg h]
    by_cases h2 : 4 ≤ j ∧ j < 4 + i
    · rw [if_pos h2, if_pos (by omega)]
    · rw [if_neg h2, if_neg (by omega)]
def st0 : StV := (fun _ => 0, fun _ => 0, fun _ => 0, ps0 4, 0, 0, 0, 0)
def stA (a0 a1 a2 a3 a4 a5 a6 : Nat) : Nat → Nat := fun k => match k with
  | 0 => a0 | 1 => a1 | 2 => a2 | 3 => a3 | 4 => a4 | 5 => a5 | _ => a6
theorem zlk_X0_init_3 : Cond.methodLink RX0 3 objectInit ∈ wsX0_init := by decide +kernel
theorem zlk_X0_init_oi : Cond.instanceMethod objectInit ∈ wsX0_init := by decide +kernel
theorem zlk_X0_init_oc : Cond.code objectInit ⟨#[0xb1]⟩ 1 none ∈ wsX0_init := by decide +kernel
theorem zlk_X0_init_aint : Cond.arrayClass .int ∈ wsX0_init := by decide +kernel
theorem zin_X0_init_X0 : ∀ w ∈ wsX00, w ∈ wsX0_init := by decide +kernel
theorem zlk_X0_init_9 : Cond.fieldLink RX0 9 "HashedDirectory$Entries" "keys" "[I" ∈ wsX0_init := by decide +kernel
theorem zlk_X0_init_15 : Cond.fieldLink RX0 15 "HashedDirectory$Entries" "names" "[I" ∈ wsX0_init := by decide +kernel
theorem zlk_X0_init_18 : Cond.fieldLink RX0 18 "HashedDirectory$Entries" "count" "I" ∈ wsX0_init := by decide +kernel
set_option maxHeartbeats 4000000 in
set_option maxRecDepth 100000 in
theorem zc_X0_init (l : Launch) (D : va_G) (ct : zCT) (h0 : Nat)  : zMetN l yX0_init wsX0_init ({ frames := 1, cells := 2, slots := 80, locals := 12 } : Room) D ct [.ref h0] [zO h0 0 [.null, .null, zi 0]] (fun _ : Nat × Nat => True) (fun u => [zO h0 0 [.ref (u.1), .ref (u.2), zi 0], zAI ct (u.1) 40 (zN (fun _ => 0)), zAI ct (u.2) 40 (zN (fun _ => 0))]) 2 80 := by
  refine zMetN_v (cc := cX0_init) (maxL := 1) (by decide) rfl (Nat.le_of_ble_eq_true rfl) ?_
  intro p e s m below meth c A Q Z hnm hN9 hR
  refine z_eqs _ [(0, .ref h0)] _ rfl rfl rfl ?_
  refine z_aload_n Z dX0_init_0 0 rfl ?_
  refine z_obj Z dX0_init_1 zlk_X0_init_3 zlk_X0_init_oi zlk_X0_init_oc (Nat.le_of_ble_eq_true rfl) (Nat.le_of_ble_eq_true rfl) ?_
  refine z_aload_n Z dX0_init_4 0 rfl ?_
  refine z_bipush (v := 40) Z dX0_init_5 (by decide +kernel) ?_
  refine z_newI (n := 40) (zN (fun _ => 0)) Z dX0_init_7 zlk_X0_init_aint rfl (by decide) (fun _ => rfl) (by first | exact Nat.le_of_ble_eq_true rfl | (show _ ≤ 2; omega)) (by first | exact Nat.le_of_ble_eq_true rfl | (show _ ≤ 80; omega)) (fun q7 => [zO h0 0 [.null, .null, zi 0], zAI ct q7 40 (zN (fun _ => 0))]) (fun _ => List.Perm.refl _) (fun q7 => ?_)
  refine z_putF (ty := .array (.int)) Z dX0_init_9 hnm zin_X0_init_X0 tyX0 tyX0_ok nmX0 0 0 [zO h0 0 [.ref q7, .null, zi 0], zAI ct q7 40 (zN (fun _ => 0))] rfl rfl (by decide) zlk_X0_init_9 rfl rfl (by decide +kernel) rfl rfl (Nat.le_of_ble_eq_true rfl) rfl ?_
  refine z_aload_n Z dX0_init_12 0 rfl ?_
  refine z_bipush (v := 40) Z dX0_init_13 (by decide +kernel) ?_
  refine z_newI (n := 40) (zN (fun _ => 0)) Z dX0_init_15 zlk_X0_init_aint rfl (by decide) (fun _ => rfl) (by first | exact Nat.le_of_ble_eq_true rfl | (show _ ≤ 2; omega)) (by first | exact Nat.le_of_ble_eq_true rfl | (show _ ≤ 80; omega)) (fun q15 => [zO h0 0 [.ref q7, .null, zi 0], zAI ct q7 40 (zN (fun _ => 0)), zAI ct q15 40 (zN (fun _ => 0))]) (fun _ => List.Perm.refl _) (fun q15 => ?_)
  refine z_putF (ty := .array (.int)) Z dX0_init_17 hnm zin_X0_init_X0 tyX0 tyX0_ok nmX0 0 1 [zO h0 0 [.ref q7, .ref q15, zi 0], zAI ct q7 40 (zN (fun _ => 0)), zAI ct q15 40 (zN (fun _ => 0))] rfl rfl (by decide) zlk_X0_init_15 rfl rfl (by decide +kernel) rfl rfl (Nat.le_of_ble_eq_true rfl) rfl ?_
  refine z_aload_n Z dX0_init_20 0 rfl ?_
  refine z_iconst (v := 0) Z dX0_init_21 rfl ?_
  refine z_put (ty := .int) Z dX0_init_22 zin_X0_init_X0 tyX0 tyX0_ok nmX0 0 2 [zO h0 0 [.ref q7, .ref q15, zi 0], zAI ct q7 40 (zN (fun _ => 0)), zAI ct q15 40 (zN (fun _ => 0))] rfl rfl (by decide) zlk_X0_init_18 rfl (by decide +kernel) rfl rfl (Nat.le_of_ble_eq_true rfl) rfl ?_
  exact hR _ _ (q7, q15) (trivial) dX0_init_25
theorem zlk_X5_init_3 : Cond.methodLink RX5 3 objectInit ∈ wsX5_init := by decide +kernel
theorem zlk_X5_init_oi : Cond.instanceMethod objectInit ∈ wsX5_init := by decide +kernel
theorem zlk_X5_init_oc : Cond.code objectInit ⟨#[0xb1]⟩ 1 none ∈ wsX5_init := by decide +kernel
theorem zlk_X5_init_aint : Cond.arrayClass .int ∈ wsX5_init := by decide +kernel
theorem zin_X5_init_X5 : ∀ w ∈ wsX50, w ∈ wsX5_init := by decide +kernel
theorem zlk_X5_init_9 : Cond.fieldLink RX5 9 "HashedDirectory$Tree" "depths" "[I" ∈ wsX5_init := by decide +kernel
theorem zlk_X5_init_15 : Cond.fieldLink RX5 15 "HashedDirectory$Tree" "splitCount" "I" ∈ wsX5_init := by decide +kernel
theorem zlk_X5_init_19 : Cond.fieldLink RX5 19 "HashedDirectory$Tree" "mergeCount" "I" ∈ wsX5_init := by decide +kernel
set_option maxHeartbeats 4000000 in
set_option maxRecDepth 100000 in
theorem zc_X5_init (l : Launch) (D : va_G) (ct : zCT) (h0 : Nat)  : zMetN l yX5_init wsX5_init ({ frames := 1, cells := 1, slots := 64, locals := 12 } : Room) D ct [.ref h0] [zO h0 4 [.null, zi 0, zi 0]] (fun _ : Nat => True) (fun u => [zO h0 4 [.ref u, zi 0, zi 0], zAI ct u 64 (zN (fun _ => 0))]) 1 64 := by
  refine zMetN_v (cc := cX5_init) (maxL := 1) (by decide) rfl (Nat.le_of_ble_eq_true rfl) ?_
  intro p e s m below meth c A Q Z hnm hN9 hR
  refine z_eqs _ [(0, .ref h0)] _ rfl rfl rfl ?_
  refine z_aload_n Z dX5_init_0 0 rfl ?_
  refine z_obj Z dX5_init_1 zlk_X5_init_3 zlk_X5_init_oi zlk_X5_init_oc (Nat.le_of_ble_eq_true rfl) (Nat.le_of_ble_eq_true rfl) ?_
  refine z_aload_n Z dX5_init_4 0 rfl ?_
  refine z_bipush (v := 64) Z dX5_init_5 (by decide +kernel) ?_
  refine z_newI (n := 64) (zN (fun _ => 0)) Z dX5_init_7 zlk_X5_init_aint rfl (by decide) (fun _ => rfl) (by first | exact Nat.le_of_ble_eq_true rfl | (show _ ≤ 1; omega)) (by first | exact Nat.le_of_ble_eq_true rfl | (show _ ≤ 64; omega)) (fun q7 => [zO h0 4 [.null, zi 0, zi 0], zAI ct q7 64 (zN (fun _ => 0))]) (fun _ => List.Perm.refl _) (fun q7 => ?_)
  refine z_putF (ty := .array (.int)) Z dX5_init_9 hnm zin_X5_init_X5 tyX5 tyX5_ok nmX5 0 0 [zO h0 4 [.ref q7, zi 0, zi 0], zAI ct q7 64 (zN (fun _ => 0))] rfl rfl (by decide) zlk_X5_init_9 rfl rfl (by decide +kernel) rfl rfl (Nat.le_of_ble_eq_true rfl) rfl ?_
  refine z_aload_n Z dX5_init_12 0 rfl ?_
  refine z_iconst (v := 0) Z dX5_init_13 rfl ?_
  refine z_put (ty := .int) Z dX5_init_14 zin_X5_init_X5 tyX5 tyX5_ok nmX5 0 1 [zO h0 4 [.ref q7, zi 0, zi 0], zAI ct q7 64 (zN (fun _ => 0))] rfl rfl (by decide) zlk_X5_init_15 rfl (by decide +kernel) rfl rfl (Nat.le_of_ble_eq_true rfl) rfl ?_
  refine z_aload_n Z dX5_init_17 0 rfl ?_
  refine z_iconst (v := 0) Z dX5_init_18 rfl ?_
  refine z_put (ty := .int) Z dX5_init_19 zin_X5_init_X5 tyX5 tyX5_ok nmX5 0 2 [zO h0 4 [.ref q7, zi 0, zi 0], zAI ct q7 64 (zN (fun _ => 0))] rfl rfl (by decide) zlk_X5_init_19 rfl (by decide +kernel) rfl rfl (Nat.le_of_ble_eq_true rfl) rfl ?_
  exact hR _ _ (q7) (trivial) dX5_init_22
theorem zlk_X4_init_3 : Cond.methodLink RX4 3 objectInit ∈ wsX4_init := by decide +kernel
theorem zlk_X4_init_oi : Cond.instanceMethod objectInit ∈ wsX4_init := by decide +kernel
theorem zlk_X4_init_oc : Cond.code objectInit ⟨#[0xb1]⟩ 1 none ∈ wsX4_init := by decide +kernel
theorem zlk_X4_init_aint : Cond.arrayClass .int ∈ wsX4_init := by decide +kernel
theorem zin_X4_init_X4 : ∀ w ∈ wsX40, w ∈ wsX4_init := by decide +kernel
theorem zlk_X4_init_9 : Cond.fieldLink RX4 9 "HashedDirectory$Text" "characters" "[I" ∈ wsX4_init := by decide +kernel
theorem zlk_X4_init_15 : Cond.fieldLink RX4 15 "HashedDirectory$Text" "length" "I" ∈ wsX4_init := by decide +kernel
set_option maxHeartbeats 4000000 in
set_option maxRecDepth 100000 in
theorem zc_X4_init (l : Launch) (D : va_G) (ct : zCT) (h0 : Nat)  : zMetN l yX4_init wsX4_init ({ frames := 1, cells := 1, slots := 80, locals := 12 } : Room) D ct [.ref h0] [zO h0 3 [.null, zi 0]] (fun _ : Nat => True) (fun u => [zO h0 3 [.ref u, zi 0], zAI ct u 80 (zN (fun _ => 0))]) 1 80 := by
  refine zMetN_v (cc := cX4_init) (maxL := 1) (by decide) rfl (Nat.le_of_ble_eq_true rfl) ?_
  intro p e s m below meth c A Q Z hnm hN9 hR
  refine z_eqs _ [(0, .ref h0)] _ rfl rfl rfl ?_
  refine z_aload_n Z dX4_init_0 0 rfl ?_
  refine z_obj Z dX4_init_1 zlk_X4_init_3 zlk_X4_init_oi zlk_X4_init_oc (Nat.le_of_ble_eq_true rfl) (Nat.le_of_ble_eq_true rfl) ?_
  refine z_aload_n Z dX4_init_4 0 rfl ?_
  refine z_bipush (v := 80) Z dX4_init_5 (by decide +kernel) ?_
  refine z_newI (n := 80) (zN (fun _ => 0)) Z dX4_init_7 zlk_X4_init_aint rfl (by decide) (fun _ => rfl) (by first | exact Nat.le_of_ble_eq_true rfl | (show _ ≤ 1; omega)) (by first | exact Nat.le_of_ble_eq_true rfl | (show _ ≤ 80; omega)) (fun q7 => [zO h0 3 [.null, zi 0], zAI ct q7 80 (zN (fun _ => 0))]) (fun _ => List.Perm.refl _) (fun q7 => ?_)
  refine z_putF (ty := .array (.int)) Z dX4_init_9 hnm zin_X4_init_X4 tyX4 tyX4_ok nmX4 0 0 [zO h0 3 [.ref q7, zi 0], zAI ct q7 80 (zN (fun _ => 0))] rfl rfl (by decide) zlk_X4_init_9 rfl rfl (by decide +kernel) rfl rfl (Nat.le_of_ble_eq_true rfl) rfl ?_
  refine z_aload_n Z dX4_init_12 0 rfl ?_
  refine z_iconst (v := 0) Z dX4_init_13 rfl ?_
  refine z_put (ty := .int) Z dX4_init_14 zin_X4_init_X4 tyX4 tyX4_ok nmX4 0 1 [zO h0 3 [.ref q7, zi 0], zAI ct q7 80 (zN (fun _ => 0))] rfl rfl (by decide) zlk_X4_init_15 rfl (by decide +kernel) rfl rfl (Nat.le_of_ble_eq_true rfl) rfl ?_
  exact hR _ _ (q7) (trivial) dX4_init_17
theorem zlk_X3_init_3 : Cond.methodLink RX3 3 objectInit ∈ wsX3_init := by decide +kernel
theorem zlk_X3_init_oi : Cond.instanceMethod objectInit ∈ wsX3_init := by decide +kernel
theorem zlk_X3_init_oc : Cond.code objectInit ⟨#[0xb1]⟩ 1 none ∈ wsX3_init := by decide +kernel
theorem zlk_X3_init_c9 : Cond.classLink RX3 9 RX0 ∈ wsX3_init := by decide +kernel
theorem zlk_X3_init_nX0 : Cond.instantiable RX0 3 ∈ wsX3_init := by decide +kernel
theorem zlk_X3_init_iX0 : Cond.initialized RX0 ∈ wsX3_init := by decide +kernel
theorem zin_X3_init_X0 : ∀ w ∈ wsX00, w ∈ wsX3_init := by decide +kernel
theorem zlk_X3_init_in11 : Cond.instanceMethod yX0_init ∈ wsX3_init := by decide +kernel
theorem zin_X3_init_X3 : ∀ w ∈ wsX30, w ∈ wsX3_init := by decide +kernel
theorem zlk_X3_init_12 : Cond.fieldLink RX3 12 "HashedDirectory$State" "entries" "LHashedDirectory$Entries;" ∈ wsX3_init := by decide +kernel
theorem zlk_X3_init_c18 : Cond.classLink RX3 18 RX5 ∈ wsX3_init := by decide +kernel
theorem zlk_X3_init_nX5 : Cond.instantiable RX5 3 ∈ wsX3_init := by decide +kernel
theorem zlk_X3_init_iX5 : Cond.initialized RX5 ∈ wsX3_init := by decide +kernel
theorem zin_X3_init_X5 : ∀ w ∈ wsX50, w ∈ wsX3_init := by decide +kernel
theorem zlk_X3_init_in20 : Cond.instanceMethod yX5_init ∈ wsX3_init := by decide +kernel
theorem zlk_X3_init_21 : Cond.fieldLink RX3 21 "HashedDirectory$State" "tree" "LHashedDirectory$Tree;" ∈ wsX3_init := by decide +kernel
theorem zlk_X3_init_aint : Cond.arrayClass .int ∈ wsX3_init := by decide +kernel
theorem zlk_X3_init_25 : Cond.fieldLink RX3 25 "HashedDirectory$State" "positions" "[I" ∈ wsX3_init := by decide +kernel
theorem zlk_X3_init_29 : Cond.fieldLink RX3 29 "HashedDirectory$State" "idsGiven" "I" ∈ wsX3_init := by decide +kernel
set_option maxHeartbeats 4000000 in
set_option maxRecDepth 100000 in
theorem zc_X3_init (l : Launch) (D : va_G) (ct : zCT) (h0 : Nat)  : zMetN l yX3_init wsX3_init ({ frames := 2, cells := 6, slots := 154, locals := 32 } : Room) D ct [.ref h0] [zO h0 2 [.null, .null, .null, zi 0]] (fun a : Nat → Nat => a 0 = h0) (fun a => stC ct a st0) 6 154 := by
  refine zMetN_v (cc := cX3_init) (maxL := 2) (by decide) rfl (Nat.le_of_ble_eq_true rfl) ?_
  intro p e s m below meth c A Q Z hnm hN9 hR
  refine z_eqs _ [(0, .ref h0)] _ rfl rfl rfl ?_
  refine z_aload_n Z dX3_init_0 0 rfl ?_
  refine z_obj Z dX3_init_1 zlk_X3_init_3 zlk_X3_init_oi zlk_X3_init_oc (Nat.le_of_ble_eq_true rfl) (Nat.le_of_ble_eq_true rfl) ?_
  refine z_aload_n Z dX3_init_4 0 rfl ?_
  refine z_new (ci := 0) (fs := [.null, .null, zi 0]) Z dX3_init_5 zin_X3_init_X0 tyX0 tyX0_ok zlk_X3_init_c9 zlk_X3_init_nX0 zlk_X3_init_iX0 rfl (fun j hj => by rcases (show j = 0 ∨ j = 1 ∨ j = 2 by omega) with rfl | rfl | rfl <;> rfl) (by first | exact Nat.le_of_ble_eq_true rfl | (show _ ≤ 6; omega)) (by first | exact Nat.le_of_ble_eq_true rfl | (show _ ≤ 154; omega)) (fun q5 => [zO h0 2 [.null, .null, .null, zi 0], zO q5 0 [.null, .null, zi 0]]) (fun _ => List.Perm.refl _) (fun q5 => ?_)
  refine z_dup Z dX3_init_8 rfl ?_
  refine z_ctorN (rest := [.ref q5, .ref h0]) Z hN9 dX3_init_9 (zc_X0_init l D ct q5) ⟨va_cnB (host := RX6) 0 Z.1.2.2.2.2 gX3_init_X0_init_n11 rfl rfl rfl (hN9.1 _ (by decide)) (Z.1.2.2.2.2 _ zlk_X3_init_iX0) (by decide +kernel) ⟨Nat.le_of_ble_eq_true rfl, Nat.le_of_ble_eq_true rfl⟩, rfl, Z.1.2.2.2.2 _ zlk_X3_init_in11⟩ rfl (Nat.le_of_ble_eq_true rfl) ⟨(by first | exact Nat.le_of_ble_eq_true rfl | (show _ ≤ 6; omega)), (by first | exact Nat.le_of_ble_eq_true rfl | (show _ ≤ 154; omega))⟩ (zcut_of [false, true] rfl rfl) (fun u9 => [zO h0 2 [.null, .null, .null, zi 0], zO q5 0 [.ref (u9.1), .ref (u9.2), zi 0], zAI ct (u9.1) 40 (zN (fun _ => 0)), zAI ct (u9.2) 40 (zN (fun _ => 0))]) (fun u9 => List.perm_append_comm) rfl (fun u9 hu9 => ?_)
  refine z_putF (ty := .object "HashedDirectory$Entries") Z dX3_init_12 hnm zin_X3_init_X3 tyX3 tyX3_ok nmX3 0 0 [zO h0 2 [.ref q5, .null, .null, zi 0], zO q5 0 [.ref (u9.1), .ref (u9.2), zi 0], zAI ct (u9.1) 40 (zN (fun _ => 0)), zAI ct (u9.2) 40 (zN (fun _ => 0))] rfl rfl (by decide) zlk_X3_init_12 rfl rfl (by decide +kernel) rfl rfl (Nat.le_of_ble_eq_true rfl) rfl ?_
  refine z_aload_n Z dX3_init_15 0 rfl ?_
  refine z_new (ci := 4) (fs := [.null, zi 0, zi 0]) Z dX3_init_16 zin_X3_init_X5 tyX5 tyX5_ok zlk_X3_init_c18 zlk_X3_init_nX5 zlk_X3_init_iX5 rfl (fun j hj => by rcases (show j = 0 ∨ j = 1 ∨ j = 2 by omega) with rfl | rfl | rfl <;> rfl) (by first | exact Nat.le_of_ble_eq_true rfl | (show _ ≤ 6; omega)) (by first | exact Nat.le_of_ble_eq_true rfl | (show _ ≤ 154; omega)) (fun q16 => [zO h0 2 [.ref q5, .null, .null, zi 0], zO q5 0 [.ref (u9.1), .ref (u9.2), zi 0], zAI ct (u9.1) 40 (zN (fun _ => 0)), zAI ct (u9.2) 40 (zN (fun _ => 0)), zO q16 4 [.null, zi 0, zi 0]]) (fun _ => List.Perm.refl _) (fun q16 => ?_)
  refine z_dup Z dX3_init_19 rfl ?_
  refine z_ctorN (rest := [.ref q16, .ref h0]) Z hN9 dX3_init_20 (zc_X5_init l D ct q16) ⟨va_cnB (host := RX6) 0 Z.1.2.2.2.2 gX3_init_X5_init_n20 rfl rfl rfl (hN9.1 _ (by decide)) (Z.1.2.2.2.2 _ zlk_X3_init_iX5) (by decide +kernel) ⟨Nat.le_of_ble_eq_true rfl, Nat.le_of_ble_eq_true rfl⟩, rfl, Z.1.2.2.2.2 _ zlk_X3_init_in20⟩ rfl (Nat.le_of_ble_eq_true rfl) ⟨(by first | exact Nat.le_of_ble_eq_true rfl | (show _ ≤ 6; omega)), (by first | exact Nat.le_of_ble_eq_true rfl | (show _ ≤ 154; omega))⟩ (zcut_of [false, false, false, false, true] rfl rfl) (fun u20 => [zO h0 2 [.ref q5, .null, .null, zi 0], zO q5 0 [.ref (u9.1), .ref (u9.2), zi 0], zAI ct (u9.1) 40 (zN (fun _ => 0)), zAI ct (u9.2) 40 (zN (fun _ => 0)), zO q16 4 [.ref u20, zi 0, zi 0], zAI ct u20 64 (zN (fun _ => 0))]) (fun u20 => List.perm_append_comm) rfl (fun u20 hu20 => ?_)
  refine z_putF (ty := .object "HashedDirectory$Tree") Z dX3_init_23 hnm zin_X3_init_X3 tyX3 tyX3_ok nmX3 0 1 [zO h0 2 [.ref q5, .ref q16, .null, zi 0], zO q5 0 [.ref (u9.1), .ref (u9.2), zi 0], zAI ct (u9.1) 40 (zN (fun _ => 0)), zAI ct (u9.2) 40 (zN (fun _ => 0)), zO q16 4 [.ref u20, zi 0, zi 0], zAI ct u20 64 (zN (fun _ => 0))] rfl rfl (by decide) zlk_X3_init_21 rfl rfl (by decide +kernel) rfl rfl (Nat.le_of_ble_eq_true rfl) rfl ?_
  refine z_aload_n Z dX3_init_26 0 rfl ?_
  refine z_iconst (v := 4) Z dX3_init_27 rfl ?_
  refine z_newI (n := 4) ((fun _ => 0)) Z dX3_init_28 zlk_X3_init_aint rfl (by decide) (fun _ => rfl) (by first | exact Nat.le_of_ble_eq_true rfl | (show _ ≤ 6; omega)) (by first | exact Nat.le_of_ble_eq_true rfl | (show _ ≤ 154; omega)) (fun q28 => [zO h0 2 [.ref q5, .ref q16, .null, zi 0], zO q5 0 [.ref (u9.1), .ref (u9.2), zi 0], zAI ct (u9.1) 40 (zN (fun _ => 0)), zAI ct (u9.2) 40 (zN (fun _ => 0)), zO q16 4 [.ref u20, zi 0, zi 0], zAI ct u20 64 (zN (fun _ => 0)), zAI ct q28 4 (fun _ => 0)]) (fun _ => List.Perm.refl _) (fun q28 => ?_)
  refine z_putF (ty := .array (.int)) Z dX3_init_30 hnm zin_X3_init_X3 tyX3 tyX3_ok nmX3 0 2 [zO h0 2 [.ref q5, .ref q16, .ref q28, zi 0], zO q5 0 [.ref (u9.1), .ref (u9.2), zi 0], zAI ct (u9.1) 40 (zN (fun _ => 0)), zAI ct (u9.2) 40 (zN (fun _ => 0)), zO q16 4 [.ref u20, zi 0, zi 0], zAI ct u20 64 (zN (fun _ => 0)), zAI ct q28 4 (fun _ => 0)] rfl rfl (by decide) zlk_X3_init_25 rfl rfl (by decide +kernel) rfl rfl (Nat.le_of_ble_eq_true rfl) rfl ?_
  refine z_aload_n Z dX3_init_33 0 rfl ?_
  refine z_iconst (v := 0) Z dX3_init_34 rfl ?_
  refine z_put (ty := .int) Z dX3_init_35 zin_X3_init_X3 tyX3 tyX3_ok nmX3 0 3 [zO h0 2 [.ref q5, .ref q16, .ref q28, zi 0], zO q5 0 [.ref (u9.1), .ref (u9.2), zi 0], zAI ct (u9.1) 40 (zN (fun _ => 0)), zAI ct (u9.2) 40 (zN (fun _ => 0)), zO q16 4 [.ref u20, zi 0, zi 0], zAI ct u20 64 (zN (fun _ => 0)), zAI ct q28 4 (fun _ => 0)] rfl rfl (by decide) zlk_X3_init_29 rfl (by decide +kernel) rfl rfl (Nat.le_of_ble_eq_true rfl) rfl ?_
  refine z_iconst (v := 0) Z dX3_init_38 rfl ?_
  refine z_istore_n Z dX3_init_39 [(1, zi 0), (0, .ref h0)] (by decide) rfl ?_
  refine z_lsub [1, 0] [(0, .ref h0), (1, zi 0)] rfl ?_
  have LOOP40 : ∀ (N0 : Nat) (i : Nat) (x1 : Int) (y6g : Nat → Int), 5 - i < N0 → x1 = ((i : Nat) : Int) → y6g = ps0 i → (i ≤ 4) → zW p l e ({ frames := 2, cells := 6, slots := 154, locals := 32 } : Room) s m ([.ref h0] : List Value).toArray below meth c D A 2 Q 6 154 [zO h0 2 [.ref q5, .ref q16, .ref q28, zi 0], zO q5 0 [.ref (u9.1), .ref (u9.2), zi 0], zAI ct (u9.1) 40 (zN (fun _ => 0)), zAI ct (u9.2) 40 (zN (fun _ => 0)), zO q16 4 [.ref u20, zi 0, zi 0], zAI ct u20 64 (zN (fun _ => 0)), zAI ct q28 4 y6g] [(0, .ref h0), (1, zi x1)] 40 [] := by
    intro N0
    induction N0 with
    | zero => intro i x1 y6g hm0; exact absurd hm0 (Nat.not_lt_zero _)
    | succ N0 ih0 =>
      intro i x1 y6g hm0 ex1 ey6g hi
      subst ex1
      subst ey6g
      refine z_iload_n Z dX3_init_40 1 rfl ?_
      refine z_iconst (v := 4) Z dX3_init_41 rfl ?_
      refine z_icmp_ge Z 59 dX3_init_42 (by decide) (by omega) (by omega) (fun h42 => ?_) (fun h42 => ?_)
      · refine z_eqs [zO h0 2 [.ref q5, .ref q16, .ref q28, zi 0], zO q5 0 [.ref (u9.1), .ref (u9.2), zi 0], zAI ct (u9.1) 40 (zN (fun _ => 0)), zAI ct (u9.2) 40 (zN (fun _ => 0)), zO q16 4 [.ref u20, zi 0, zi 0], zAI ct u20 64 (zN (fun _ => 0)), zAI ct q28 4 (ps0 4)] _ _ (by rw [show i = 4 from by omega]) rfl rfl ?_
        exact hR _ _ (stA h0 q5 q16 q28 (u9.1) (u9.2) u20) (rfl) dX3_init_59
      · refine z_aload_n Z dX3_init_45 0 rfl ?_
        refine z_get Z dX3_init_46 zin_X3_init_X3 0 2 rfl rfl (by decide) zlk_X3_init_25 rfl ?_
        refine z_iload_n Z dX3_init_49 1 rfl ?_
        refine z_bipush (v := -2) Z dX3_init_50 (by decide +kernel) ?_
        refine z_iast Z dX3_init_52 6 (i) [zO h0 2 [.ref q5, .ref q16, .ref q28, zi 0], zO q5 0 [.ref (u9.1), .ref (u9.2), zi 0], zAI ct (u9.1) 40 (zN (fun _ => 0)), zAI ct (u9.2) 40 (zN (fun _ => 0)), zO q16 4 [.ref u20, zi 0, zi 0], zAI ct u20 64 (zN (fun _ => 0)), zAI ct q28 4 (zU (ps0 i) i (-2))] rfl (rfl) ⟨by omega, by omega⟩ rfl ?_
        refine z_iinc (v := ((i + 1 : Nat) : Int)) Z dX3_init_53 1 [(1, zi ((i + 1 : Nat) : Int)), (0, .ref h0)] rfl (by omega) (by decide) rfl ?_
        refine z_goto Z 40 dX3_init_56 (by decide) ?_
        refine z_lsub [1, 0] [(0, .ref h0), (1, zi ((i + 1 : Nat) : Int))] rfl ?_
        exact ih0 (i + 1) _ _ (by omega) (by first | rfl | omega) (ps0_s i) (by first | assumption | omega)
  exact LOOP40 (5 - 0 + 1) 0 _ _ (Nat.lt_succ_self _) (by first | rfl | omega) (ps0_0) (by first | assumption | omega)
theorem zlk_X1_init_3 : Cond.methodLink RX1 3 objectInit ∈ wsX1_init := by decide +kernel
theorem zlk_X1_init_oi : Cond.instanceMethod objectInit ∈ wsX1_init := by decide +kernel
theorem zlk_X1_init_oc : Cond.code objectInit ⟨#[0xb1]⟩ 1 none ∈ wsX1_init := by decide +kernel
theorem zlk_X1_init_c9 : Cond.classLink RX1 9 RX3 ∈ wsX1_init := by decide +kernel
theorem zin_X1_init_X1 : ∀ w ∈ wsX10, w ∈ wsX1_init := by decide +kernel
theorem zlk_X1_init_11 : Cond.fieldLink RX1 11 "HashedDirectory$History" "rows" "[LHashedDirectory$State;" ∈ wsX1_init := by decide +kernel
theorem zlk_X1_init_17 : Cond.fieldLink RX1 17 "HashedDirectory$History" "oldest" "I" ∈ wsX1_init := by decide +kernel
theorem zlk_X1_init_21 : Cond.fieldLink RX1 21 "HashedDirectory$History" "count" "I" ∈ wsX1_init := by decide +kernel
theorem zlk_X1_init_nX3 : Cond.instantiable RX3 4 ∈ wsX1_init := by decide +kernel
theorem zlk_X1_init_iX3 : Cond.initialized RX3 ∈ wsX1_init := by decide +kernel
theorem zin_X1_init_X3 : ∀ w ∈ wsX30, w ∈ wsX1_init := by decide +kernel
theorem zlk_X1_init_in24 : Cond.instanceMethod yX3_init ∈ wsX1_init := by decide +kernel
theorem zlk_X1_init_m24 : Cond.methodLink RX1 24 yX3_init ∈ wsX1_init := by decide +kernel
set_option maxHeartbeats 4000000 in
set_option maxRecDepth 100000 in
theorem zc_X1_init (l : Launch) (D : va_G) (ct : zCT) (h0 : Nat)  : zMetN l yX1_init wsX1_init ({ frames := 3, cells := 43, slots := 954, locals := 53 } : Room) D ct [.ref h0] [zO h0 1 [.null, zi 0, zi 0]] (fun u : Nat × (Nat → Option Nat) × (Nat → Nat → Nat) => ∀ k, k < 6 → u.2.1 k = some (u.2.2 k 0)) (fun u => [zO h0 1 [.ref (u.1), zi 0, zi 0], zAS ct (u.1) 6 (u.2.1)] ++ stR ct u.2.2 (fun _ => st0) (List.range 6)) 43 954 := by
  refine zMetN_v (cc := cX1_init) (maxL := 2) (by decide) rfl (Nat.le_of_ble_eq_true rfl) ?_
  intro p e s m below meth c A Q Z hnm hN9 hR
  refine z_eqs _ [(0, .ref h0)] _ rfl rfl rfl ?_
  refine z_aload_n Z dX1_init_0 0 rfl ?_
  refine z_obj Z dX1_init_1 zlk_X1_init_3 zlk_X1_init_oi zlk_X1_init_oc (Nat.le_of_ble_eq_true rfl) (Nat.le_of_ble_eq_true rfl) ?_
  refine z_aload_n Z dX1_init_4 0 rfl ?_
  refine z_bipush (v := 6) Z dX1_init_5 (by decide +kernel) ?_
  refine z_newS (n := 6) Z hN9 dX1_init_7 zlk_X1_init_c9 rfl (by decide) (by first | exact Nat.le_of_ble_eq_true rfl | (show _ ≤ 43; omega)) (by first | exact Nat.le_of_ble_eq_true rfl | (show _ ≤ 954; omega)) (fun q7 => [zO h0 1 [.null, zi 0, zi 0], zAS ct q7 6 (fun _ => none)]) (fun _ => List.Perm.refl _) (fun q7 => ?_)
  refine z_putF (ty := .array (.object "HashedDirectory$State")) Z dX1_init_10 hnm zin_X1_init_X1 tyX1 tyX1_ok nmX1 0 0 [zO h0 1 [.ref q7, zi 0, zi 0], zAS ct q7 6 (fun _ => none)] rfl rfl (by decide) zlk_X1_init_11 rfl rfl (by decide +kernel) rfl rfl (Nat.le_of_ble_eq_true rfl) rfl ?_
  refine z_aload_n Z dX1_init_13 0 rfl ?_
  refine z_iconst (v := 0) Z dX1_init_14 rfl ?_
  refine z_put (ty := .int) Z dX1_init_15 zin_X1_init_X1 tyX1 tyX1_ok nmX1 0 1 [zO h0 1 [.ref q7, zi 0, zi 0], zAS ct q7 6 (fun _ => none)] rfl rfl (by decide) zlk_X1_init_17 rfl (by decide +kernel) rfl rfl (Nat.le_of_ble_eq_true rfl) rfl ?_
  refine z_aload_n Z dX1_init_18 0 rfl ?_
  refine z_iconst (v := 0) Z dX1_init_19 rfl ?_
  refine z_put (ty := .int) Z dX1_init_20 zin_X1_init_X1 tyX1 tyX1_ok nmX1 0 2 [zO h0 1 [.ref q7, zi 0, zi 0], zAS ct q7 6 (fun _ => none)] rfl rfl (by decide) zlk_X1_init_21 rfl (by decide +kernel) rfl rfl (Nat.le_of_ble_eq_true rfl) rfl ?_
  refine z_iconst (v := 0) Z dX1_init_23 rfl ?_
  refine z_istore_n Z dX1_init_24 [(1, zi 0), (0, .ref h0)] (by decide) rfl ?_
  refine z_lsub [1, 0] [(0, .ref h0), (1, zi 0)] rfl ?_
  refine z_widen (1 + 7 * 0) (6 + 158 * 0) (by omega) (by omega) ?_
  have LOOP25 : ∀ (N0 : Nat) (i : Nat) (ff : Nat → Option Nat) (ra : Nat → Nat → Nat) (x1 : Int), 7 - i < N0 → x1 = ((i : Nat) : Int) → (i ≤ 6) → (∀ k, k < i → ff k = some (ra k 0)) → zW p l e ({ frames := 3, cells := 43, slots := 954, locals := 53 } : Room) s m ([.ref h0] : List Value).toArray below meth c D A 2 Q (1 + 7 * i) (6 + 158 * i) ([zO h0 1 [.ref q7, zi 0, zi 0], zAS ct q7 6 ff] ++ (stR ct ra (fun _ => st0) (List.range i))) [(0, .ref h0), (1, zi x1)] 25 [] := by
    intro N0
    induction N0 with
    | zero => intro i ff ra x1 hm0; exact absurd hm0 (Nat.not_lt_zero _)
    | succ N0 ih0 =>
      intro i ff ra x1 hm0 ex1 hi hff
      subst ex1
      refine z_iload_n Z dX1_init_25 1 rfl ?_
      refine z_bipush (v := 6) Z dX1_init_26 (by decide +kernel) ?_
      refine z_icmp_ge Z 50 dX1_init_28 (by decide) (by omega) (by omega) (fun h28 => ?_) (fun h28 => ?_)
      · have hi6 : i = 6 := by omega
        subst hi6
        refine z_widen 43 954 (by omega) (by omega) ?_
        exact hR _ _ (q7, ff, ra) (hff) dX1_init_50
      · refine z_aload_n Z dX1_init_31 0 rfl ?_
        refine z_get Z dX1_init_32 zin_X1_init_X1 0 0 rfl rfl (by decide) zlk_X1_init_11 rfl ?_
        refine z_iload_n Z dX1_init_35 1 rfl ?_
        refine z_new (ci := 2) (fs := [.null, .null, .null, zi 0]) Z dX1_init_36 zin_X1_init_X3 tyX3 tyX3_ok zlk_X1_init_c9 zlk_X1_init_nX3 zlk_X1_init_iX3 rfl (fun j hj => by rcases (show j = 0 ∨ j = 1 ∨ j = 2 ∨ j = 3 by omega) with rfl | rfl | rfl | rfl <;> rfl) (by first | exact Nat.le_of_ble_eq_true rfl | (show _ ≤ 43; omega)) (by first | exact Nat.le_of_ble_eq_true rfl | (show _ ≤ 954; omega)) (fun q36 => ([zO h0 1 [.ref q7, zi 0, zi 0], zAS ct q7 6 ff, zO q36 2 [.null, .null, .null, zi 0]] ++ (stR ct ra (fun _ => st0) (List.range i)))) (fun _ => zp_new) (fun q36 => ?_)
        refine z_dup Z dX1_init_39 rfl ?_
        refine z_ctor (rest := [.ref q36, zi ((i : Nat) : Int), .ref q7]) Z hN9 dX1_init_40 (zc_X3_init l D ct q36) ⟨callB_of 0 Z.1.2.2.2.2 gX1_init_X3_init rfl rfl rfl (Z.1.2.2.2.2 _ zlk_X1_init_iX3) (Z.1.2.2.2.2 _ zlk_X1_init_m24) (by decide +kernel) ⟨Nat.le_of_ble_eq_true rfl, Nat.le_of_ble_eq_true rfl⟩, rfl, Z.1.2.2.2.2 _ zlk_X1_init_in24⟩ rfl (Nat.le_of_ble_eq_true rfl) ⟨(by first | exact Nat.le_of_ble_eq_true rfl | (show _ ≤ 43; omega)), (by first | exact Nat.le_of_ble_eq_true rfl | (show _ ≤ 954; omega))⟩ (zcut_of [false, false, true] rfl rfl) (fun u40 => ([zO h0 1 [.ref q7, zi 0, zi 0], zAS ct q7 6 ff, zO (u40 0) 2 [.ref (u40 1), .ref (u40 2), .ref (u40 3), zi 0], zO (u40 1) 0 [.ref (u40 4), .ref (u40 5), zi 0], zAI ct (u40 4) 40 (zN (fun _ => 0)), zAI ct (u40 5) 40 (zN (fun _ => 0)), zO (u40 2) 4 [.ref (u40 6), zi 0, zi 0], zAI ct (u40 6) 64 (zN (fun _ => 0)), zAI ct (u40 3) 4 (ps0 4)] ++ (stR ct ra (fun _ => st0) (List.range i)))) (fun u40 => (zp_mid (E := [zO h0 1 [.ref q7, zi 0, zi 0], zAS ct q7 6 ff]) (T := stR ct ra (fun _ => st0) (List.range i)) (A := [zO (u40 0) 2 [.ref (u40 1), .ref (u40 2), .ref (u40 3), zi 0], zO (u40 1) 0 [.ref (u40 4), .ref (u40 5), zi 0], zAI ct (u40 4) 40 (zN (fun _ => 0)), zAI ct (u40 5) 40 (zN (fun _ => 0)), zO (u40 2) 4 [.ref (u40 6), zi 0, zi 0], zAI ct (u40 6) 64 (zN (fun _ => 0)), zAI ct (u40 3) 4 (ps0 4)]))) rfl (fun u40 hu40 => ?_)
        subst hu40
        refine z_aast (k := i) Z dX1_init_43 1 2 rfl rfl (by omega) ⟨by omega, by omega⟩ ([zO h0 1 [.ref q7, zi 0, zi 0], zAS ct q7 6 (zU ff i (some (u40 0))), zO (u40 0) 2 [.ref (u40 1), .ref (u40 2), .ref (u40 3), zi 0], zO (u40 1) 0 [.ref (u40 4), .ref (u40 5), zi 0], zAI ct (u40 4) 40 (zN (fun _ => 0)), zAI ct (u40 5) 40 (zN (fun _ => 0)), zO (u40 2) 4 [.ref (u40 6), zi 0, zi 0], zAI ct (u40 6) 64 (zN (fun _ => 0)), zAI ct (u40 3) 4 (ps0 4)] ++ (stR ct ra (fun _ => st0) (List.range i))) rfl ?_
        refine zW_perm ([zO h0 1 [.ref q7, zi 0, zi 0], zAS ct q7 6 (zU ff i (some (u40 0)))] ++ (stR ct (zU ra i u40) (fun _ => st0) (List.range (i + 1)))) (zp_in (E := [zO h0 1 [.ref q7, zi 0, zi 0], zAS ct q7 6 (zU ff i (some (u40 0)))]) (T := stR ct ra (fun _ => st0) (List.range i)) (A := (stC ct u40 st0)) (stR_push ct ra i u40 st0)) ?_
        refine z_iinc (v := ((i + 1 : Nat) : Int)) Z dX1_init_44 1 [(1, zi ((i + 1 : Nat) : Int)), (0, .ref h0)] rfl (by omega) (by decide) rfl ?_
        refine z_goto Z 25 dX1_init_47 (by decide) ?_
        refine z_lsub [1, 0] [(0, .ref h0), (1, zi ((i + 1 : Nat) : Int))] rfl ?_
        refine z_widen (1 + 7 * (i + 1)) (6 + 158 * (i + 1)) (by omega) (by omega) ?_
        exact ih0 (i + 1) (zU ff i (some (u40 0))) (zU ra i u40) _ (by omega) (by first | rfl | omega)  (by first | assumption | omega) (zU_ff hff)
  exact LOOP25 (7 - 0 + 1) 0 (fun _ => none) (fun _ _ => 0) _ (Nat.lt_succ_self _) (by first | rfl | omega)  (by first | assumption | omega) (fun k hk => absurd hk (Nat.not_lt_zero k))
theorem zlk_X6_init_3 : Cond.methodLink RX6 3 objectInit ∈ wsX6_init := by decide +kernel
theorem zlk_X6_init_oi : Cond.instanceMethod objectInit ∈ wsX6_init := by decide +kernel
theorem zlk_X6_init_oc : Cond.code objectInit ⟨#[0xb1]⟩ 1 none ∈ wsX6_init := by decide +kernel
theorem zlk_X6_init_c9 : Cond.classLink RX6 9 RX3 ∈ wsX6_init := by decide +kernel
theorem zlk_X6_init_nX3 : Cond.instantiable RX3 4 ∈ wsX6_init := by decide +kernel
theorem zlk_X6_init_iX3 : Cond.initialized RX3 ∈ wsX6_init := by decide +kernel
theorem zin_X6_init_X3 : ∀ w ∈ wsX30, w ∈ wsX6_init := by decide +kernel
theorem zlk_X6_init_in11 : Cond.instanceMethod yX3_init ∈ wsX6_init := by decide +kernel
theorem zlk_X6_init_m11 : Cond.methodLink RX6 11 yX3_init ∈ wsX6_init := by decide +kernel
theorem zin_X6_init_X6 : ∀ w ∈ wsX60, w ∈ wsX6_init := by decide +kernel
theorem zlk_X6_init_12 : Cond.fieldLink RX6 12 "HashedDirectory" "state" "LHashedDirectory$State;" ∈ wsX6_init := by decide +kernel
theorem zlk_X6_init_c16 : Cond.classLink RX6 16 RX1 ∈ wsX6_init := by decide +kernel
theorem zlk_X6_init_nX1 : Cond.instantiable RX1 3 ∈ wsX6_init := by decide +kernel
theorem zlk_X6_init_iX1 : Cond.initialized RX1 ∈ wsX6_init := by decide +kernel
theorem zin_X6_init_X1 : ∀ w ∈ wsX10, w ∈ wsX6_init := by decide +kernel
theorem zlk_X6_init_in18 : Cond.instanceMethod yX1_init ∈ wsX6_init := by decide +kernel
theorem zlk_X6_init_m18 : Cond.methodLink RX6 18 yX1_init ∈ wsX6_init := by decide +kernel
theorem zlk_X6_init_19 : Cond.fieldLink RX6 19 "HashedDirectory" "history" "LHashedDirectory$History;" ∈ wsX6_init := by decide +kernel
theorem zlk_X6_init_23 : Cond.fieldLink RX6 23 "HashedDirectory" "slots" "[LHashedDirectory$State;" ∈ wsX6_init := by decide +kernel
theorem zlk_X6_init_aboolean : Cond.arrayClass .boolean ∈ wsX6_init := by decide +kernel
theorem zlk_X6_init_27 : Cond.fieldLink RX6 27 "HashedDirectory" "slotFilled" "[Z" ∈ wsX6_init := by decide +kernel
theorem zlk_X6_init_c31 : Cond.classLink RX6 31 RX4 ∈ wsX6_init := by decide +kernel
theorem zlk_X6_init_nX4 : Cond.instantiable RX4 2 ∈ wsX6_init := by decide +kernel
theorem zlk_X6_init_iX4 : Cond.initialized RX4 ∈ wsX6_init := by decide +kernel
theorem zin_X6_init_X4 : ∀ w ∈ wsX40, w ∈ wsX6_init := by decide +kernel
theorem zlk_X6_init_in33 : Cond.instanceMethod yX4_init ∈ wsX6_init := by decide +kernel
theorem zlk_X6_init_34 : Cond.fieldLink RX6 34 "HashedDirectory" "text" "LHashedDirectory$Text;" ∈ wsX6_init := by decide +kernel
set_option maxHeartbeats 4000000 in
set_option maxRecDepth 100000 in
theorem zc_X6_init (l : Launch) (D : va_G) (ct : zCT) (h0 : Nat)  : zMetN l yX6_init wsX6_init ({ frames := 4, cells := 72, slots := 1522, locals := 74 } : Room) D ct [.ref h0] [zO h0 5 [.null, .null, .null, .null, .null]] (fun u : (Nat → Nat) × (Nat × Nat × (Nat → Option Nat) × (Nat → Nat → Nat)) × (Nat × Nat × (Nat → Option Nat) × (Nat → Nat → Nat)) × Nat × Nat => (∀ k, k < 6 → u.2.1.2.2.1 k = some (u.2.1.2.2.2 k 0)) ∧ (∀ k, k < 2 → u.2.2.1.2.2.1 k = some (u.2.2.1.2.2.2 k 0))) (fun u => ([zO h0 5 [.ref (u.1 0), .ref (u.2.1.1), .ref (u.2.2.1.1), .ref (u.2.2.1.2.1), .ref (u.2.2.2.1)], zO (u.1 0) 2 [.ref (u.1 1), .ref (u.1 2), .ref (u.1 3), zi 0], zO (u.1 1) 0 [.ref (u.1 4), .ref (u.1 5), zi 0], zAI ct (u.1 4) 40 (zN (fun _ => 0)), zAI ct (u.1 5) 40 (zN (fun _ => 0)), zO (u.1 2) 4 [.ref (u.1 6), zi 0, zi 0], zAI ct (u.1 6) 64 (zN (fun _ => 0)), zAI ct (u.1 3) 4 (ps0 4), zO (u.2.2.2.1) 3 [.ref (u.2.2.2.2), zi 0], zAI ct (u.2.2.2.2) 80 (zN (fun _ => 0)), zO (u.2.1.1) 1 [.ref (u.2.1.2.1), zi 0, zi 0], zAS ct (u.2.1.2.1) 6 (u.2.1.2.2.1), zAS ct (u.2.2.1.1) 2 (u.2.2.1.2.2.1), zAZ ct (u.2.2.1.2.1) 2 (fun _ => 0)] ++ (stR ct u.2.1.2.2.2 (fun _ => st0) (List.range 6) ++ (stR ct u.2.2.1.2.2.2 (fun _ => st0) (List.range 2))))) 72 1522 := by
  refine zMetN_v (cc := cX6_init) (maxL := 2) (by decide) rfl (Nat.le_of_ble_eq_true rfl) ?_
  intro p e s m below meth c A Q Z hnm hN9 hR
  refine z_eqs _ [(0, .ref h0)] _ rfl rfl rfl ?_
  refine z_aload_n Z dX6_init_0 0 rfl ?_
  refine z_obj Z dX6_init_1 zlk_X6_init_3 zlk_X6_init_oi zlk_X6_init_oc (Nat.le_of_ble_eq_true rfl) (Nat.le_of_ble_eq_true rfl) ?_
  refine z_aload_n Z dX6_init_4 0 rfl ?_
  refine z_new (ci := 2) (fs := [.null, .null, .null, zi 0]) Z dX6_init_5 zin_X6_init_X3 tyX3 tyX3_ok zlk_X6_init_c9 zlk_X6_init_nX3 zlk_X6_init_iX3 rfl (fun j hj => by rcases (show j = 0 ∨ j = 1 ∨ j = 2 ∨ j = 3 by omega) with rfl | rfl | rfl | rfl <;> rfl) (by first | exact Nat.le_of_ble_eq_true rfl | (show _ ≤ 72; omega)) (by first | exact Nat.le_of_ble_eq_true rfl | (show _ ≤ 1522; omega)) (fun q5 => [zO h0 5 [.null, .null, .null, .null, .null], zO q5 2 [.null, .null, .null, zi 0]]) (fun _ => List.Perm.refl _) (fun q5 => ?_)
  refine z_dup Z dX6_init_8 rfl ?_
  refine z_ctor (rest := [.ref q5, .ref h0]) Z hN9 dX6_init_9 (zc_X3_init l D ct q5) ⟨callB_of 0 Z.1.2.2.2.2 gX6_init_X3_init rfl rfl rfl (Z.1.2.2.2.2 _ zlk_X6_init_iX3) (Z.1.2.2.2.2 _ zlk_X6_init_m11) (by decide +kernel) ⟨Nat.le_of_ble_eq_true rfl, Nat.le_of_ble_eq_true rfl⟩, rfl, Z.1.2.2.2.2 _ zlk_X6_init_in11⟩ rfl (Nat.le_of_ble_eq_true rfl) ⟨(by first | exact Nat.le_of_ble_eq_true rfl | (show _ ≤ 72; omega)), (by first | exact Nat.le_of_ble_eq_true rfl | (show _ ≤ 1522; omega))⟩ (zcut_of [false, true] rfl rfl) (fun u9 => [zO h0 5 [.null, .null, .null, .null, .null], zO (u9 0) 2 [.ref (u9 1), .ref (u9 2), .ref (u9 3), zi 0], zO (u9 1) 0 [.ref (u9 4), .ref (u9 5), zi 0], zAI ct (u9 4) 40 (zN (fun _ => 0)), zAI ct (u9 5) 40 (zN (fun _ => 0)), zO (u9 2) 4 [.ref (u9 6), zi 0, zi 0], zAI ct (u9 6) 64 (zN (fun _ => 0)), zAI ct (u9 3) 4 (ps0 4)]) (fun u9 => List.perm_append_comm) rfl (fun u9 hu9 => ?_)
  subst hu9
  refine z_putF (ty := .object "HashedDirectory$State") Z dX6_init_12 hnm zin_X6_init_X6 tyX6 tyX6_ok nmX6 0 0 [zO h0 5 [.ref (u9 0), .null, .null, .null, .null], zO (u9 0) 2 [.ref (u9 1), .ref (u9 2), .ref (u9 3), zi 0], zO (u9 1) 0 [.ref (u9 4), .ref (u9 5), zi 0], zAI ct (u9 4) 40 (zN (fun _ => 0)), zAI ct (u9 5) 40 (zN (fun _ => 0)), zO (u9 2) 4 [.ref (u9 6), zi 0, zi 0], zAI ct (u9 6) 64 (zN (fun _ => 0)), zAI ct (u9 3) 4 (ps0 4)] rfl rfl (by decide) zlk_X6_init_12 rfl rfl (by decide +kernel) rfl rfl (Nat.le_of_ble_eq_true rfl) rfl ?_
  refine z_aload_n Z dX6_init_15 0 rfl ?_
  refine z_new (ci := 1) (fs := [.null, zi 0, zi 0]) Z dX6_init_16 zin_X6_init_X1 tyX1 tyX1_ok zlk_X6_init_c16 zlk_X6_init_nX1 zlk_X6_init_iX1 rfl (fun j hj => by rcases (show j = 0 ∨ j = 1 ∨ j = 2 by omega) with rfl | rfl | rfl <;> rfl) (by first | exact Nat.le_of_ble_eq_true rfl | (show _ ≤ 72; omega)) (by first | exact Nat.le_of_ble_eq_true rfl | (show _ ≤ 1522; omega)) (fun q16 => [zO h0 5 [.ref (u9 0), .null, .null, .null, .null], zO (u9 0) 2 [.ref (u9 1), .ref (u9 2), .ref (u9 3), zi 0], zO (u9 1) 0 [.ref (u9 4), .ref (u9 5), zi 0], zAI ct (u9 4) 40 (zN (fun _ => 0)), zAI ct (u9 5) 40 (zN (fun _ => 0)), zO (u9 2) 4 [.ref (u9 6), zi 0, zi 0], zAI ct (u9 6) 64 (zN (fun _ => 0)), zAI ct (u9 3) 4 (ps0 4), zO q16 1 [.null, zi 0, zi 0]]) (fun _ => List.Perm.refl _) (fun q16 => ?_)
  refine z_dup Z dX6_init_19 rfl ?_
  refine z_ctor (rest := [.ref q16, .ref h0]) Z hN9 dX6_init_20 (zc_X1_init l D ct q16) ⟨callB_of 0 Z.1.2.2.2.2 gX6_init_X1_init rfl rfl rfl (Z.1.2.2.2.2 _ zlk_X6_init_iX1) (Z.1.2.2.2.2 _ zlk_X6_init_m18) (by decide +kernel) ⟨Nat.le_of_ble_eq_true rfl, Nat.le_of_ble_eq_true rfl⟩, rfl, Z.1.2.2.2.2 _ zlk_X6_init_in18⟩ rfl (Nat.le_of_ble_eq_true rfl) ⟨(by first | exact Nat.le_of_ble_eq_true rfl | (show _ ≤ 72; omega)), (by first | exact Nat.le_of_ble_eq_true rfl | (show _ ≤ 1522; omega))⟩ (zcut_of [false, false, false, false, false, false, false, false, true] rfl rfl) (fun u20 => ([zO h0 5 [.ref (u9 0), .null, .null, .null, .null], zO (u9 0) 2 [.ref (u9 1), .ref (u9 2), .ref (u9 3), zi 0], zO (u9 1) 0 [.ref (u9 4), .ref (u9 5), zi 0], zAI ct (u9 4) 40 (zN (fun _ => 0)), zAI ct (u9 5) 40 (zN (fun _ => 0)), zO (u9 2) 4 [.ref (u9 6), zi 0, zi 0], zAI ct (u9 6) 64 (zN (fun _ => 0)), zAI ct (u9 3) 4 (ps0 4), zO q16 1 [.ref (u20.1), zi 0, zi 0], zAS ct (u20.1) 6 (u20.2.1)] ++ (stR ct u20.2.2 (fun _ => st0) (List.range 6)))) (fun u20 => (zp_tail (E := [zO h0 5 [.ref (u9 0), .null, .null, .null, .null], zO (u9 0) 2 [.ref (u9 1), .ref (u9 2), .ref (u9 3), zi 0], zO (u9 1) 0 [.ref (u9 4), .ref (u9 5), zi 0], zAI ct (u9 4) 40 (zN (fun _ => 0)), zAI ct (u9 5) 40 (zN (fun _ => 0)), zO (u9 2) 4 [.ref (u9 6), zi 0, zi 0], zAI ct (u9 6) 64 (zN (fun _ => 0)), zAI ct (u9 3) 4 (ps0 4)]) (A := [zO q16 1 [.ref (u20.1), zi 0, zi 0], zAS ct (u20.1) 6 (u20.2.1)]) (T := stR ct u20.2.2 (fun _ => st0) (List.range 6)))) rfl (fun u20 hu20 => ?_)
  refine z_putF (ty := .object "HashedDirectory$History") Z dX6_init_23 hnm zin_X6_init_X6 tyX6 tyX6_ok nmX6 0 1 ([zO h0 5 [.ref (u9 0), .ref q16, .null, .null, .null], zO (u9 0) 2 [.ref (u9 1), .ref (u9 2), .ref (u9 3), zi 0], zO (u9 1) 0 [.ref (u9 4), .ref (u9 5), zi 0], zAI ct (u9 4) 40 (zN (fun _ => 0)), zAI ct (u9 5) 40 (zN (fun _ => 0)), zO (u9 2) 4 [.ref (u9 6), zi 0, zi 0], zAI ct (u9 6) 64 (zN (fun _ => 0)), zAI ct (u9 3) 4 (ps0 4), zO q16 1 [.ref (u20.1), zi 0, zi 0], zAS ct (u20.1) 6 (u20.2.1)] ++ (stR ct u20.2.2 (fun _ => st0) (List.range 6))) rfl rfl (by decide) zlk_X6_init_19 rfl rfl (by decide +kernel) rfl rfl (Nat.le_of_ble_eq_true rfl) rfl ?_
  refine z_aload_n Z dX6_init_26 0 rfl ?_
  refine z_iconst (v := 2) Z dX6_init_27 rfl ?_
  refine z_newS (n := 2) Z hN9 dX6_init_28 zlk_X6_init_c9 rfl (by decide) (by first | exact Nat.le_of_ble_eq_true rfl | (show _ ≤ 72; omega)) (by first | exact Nat.le_of_ble_eq_true rfl | (show _ ≤ 1522; omega)) (fun q28 => ([zO h0 5 [.ref (u9 0), .ref q16, .null, .null, .null], zO (u9 0) 2 [.ref (u9 1), .ref (u9 2), .ref (u9 3), zi 0], zO (u9 1) 0 [.ref (u9 4), .ref (u9 5), zi 0], zAI ct (u9 4) 40 (zN (fun _ => 0)), zAI ct (u9 5) 40 (zN (fun _ => 0)), zO (u9 2) 4 [.ref (u9 6), zi 0, zi 0], zAI ct (u9 6) 64 (zN (fun _ => 0)), zAI ct (u9 3) 4 (ps0 4), zO q16 1 [.ref (u20.1), zi 0, zi 0], zAS ct (u20.1) 6 (u20.2.1), zAS ct q28 2 (fun _ => none)] ++ (stR ct u20.2.2 (fun _ => st0) (List.range 6)))) (fun _ => zp_new) (fun q28 => ?_)
  refine z_putF (ty := .array (.object "HashedDirectory$State")) Z dX6_init_31 hnm zin_X6_init_X6 tyX6 tyX6_ok nmX6 0 2 ([zO h0 5 [.ref (u9 0), .ref q16, .ref q28, .null, .null], zO (u9 0) 2 [.ref (u9 1), .ref (u9 2), .ref (u9 3), zi 0], zO (u9 1) 0 [.ref (u9 4), .ref (u9 5), zi 0], zAI ct (u9 4) 40 (zN (fun _ => 0)), zAI ct (u9 5) 40 (zN (fun _ => 0)), zO (u9 2) 4 [.ref (u9 6), zi 0, zi 0], zAI ct (u9 6) 64 (zN (fun _ => 0)), zAI ct (u9 3) 4 (ps0 4), zO q16 1 [.ref (u20.1), zi 0, zi 0], zAS ct (u20.1) 6 (u20.2.1), zAS ct q28 2 (fun _ => none)] ++ (stR ct u20.2.2 (fun _ => st0) (List.range 6))) rfl rfl (by decide) zlk_X6_init_23 rfl rfl (by decide +kernel) rfl rfl (Nat.le_of_ble_eq_true rfl) rfl ?_
  refine z_aload_n Z dX6_init_34 0 rfl ?_
  refine z_iconst (v := 2) Z dX6_init_35 rfl ?_
  refine z_newZ (n := 2) ((fun _ => 0)) Z dX6_init_36 zlk_X6_init_aboolean rfl (by decide) (fun _ => rfl) (by first | exact Nat.le_of_ble_eq_true rfl | (show _ ≤ 72; omega)) (by first | exact Nat.le_of_ble_eq_true rfl | (show _ ≤ 1522; omega)) (fun q36 => ([zO h0 5 [.ref (u9 0), .ref q16, .ref q28, .null, .null], zO (u9 0) 2 [.ref (u9 1), .ref (u9 2), .ref (u9 3), zi 0], zO (u9 1) 0 [.ref (u9 4), .ref (u9 5), zi 0], zAI ct (u9 4) 40 (zN (fun _ => 0)), zAI ct (u9 5) 40 (zN (fun _ => 0)), zO (u9 2) 4 [.ref (u9 6), zi 0, zi 0], zAI ct (u9 6) 64 (zN (fun _ => 0)), zAI ct (u9 3) 4 (ps0 4), zO q16 1 [.ref (u20.1), zi 0, zi 0], zAS ct (u20.1) 6 (u20.2.1), zAS ct q28 2 (fun _ => none), zAZ ct q36 2 (fun _ => 0)] ++ (stR ct u20.2.2 (fun _ => st0) (List.range 6)))) (fun _ => zp_new) (fun q36 => ?_)
  refine z_putF (ty := .array (.boolean)) Z dX6_init_38 hnm zin_X6_init_X6 tyX6 tyX6_ok nmX6 0 3 ([zO h0 5 [.ref (u9 0), .ref q16, .ref q28, .ref q36, .null], zO (u9 0) 2 [.ref (u9 1), .ref (u9 2), .ref (u9 3), zi 0], zO (u9 1) 0 [.ref (u9 4), .ref (u9 5), zi 0], zAI ct (u9 4) 40 (zN (fun _ => 0)), zAI ct (u9 5) 40 (zN (fun _ => 0)), zO (u9 2) 4 [.ref (u9 6), zi 0, zi 0], zAI ct (u9 6) 64 (zN (fun _ => 0)), zAI ct (u9 3) 4 (ps0 4), zO q16 1 [.ref (u20.1), zi 0, zi 0], zAS ct (u20.1) 6 (u20.2.1), zAS ct q28 2 (fun _ => none), zAZ ct q36 2 (fun _ => 0)] ++ (stR ct u20.2.2 (fun _ => st0) (List.range 6))) rfl rfl (by decide) zlk_X6_init_27 rfl rfl (by decide +kernel) rfl rfl (Nat.le_of_ble_eq_true rfl) rfl ?_
  refine z_aload_n Z dX6_init_41 0 rfl ?_
  refine z_new (ci := 3) (fs := [.null, zi 0]) Z dX6_init_42 zin_X6_init_X4 tyX4 tyX4_ok zlk_X6_init_c31 zlk_X6_init_nX4 zlk_X6_init_iX4 rfl (fun j hj => by rcases (show j = 0 ∨ j = 1 by omega) with rfl | rfl <;> rfl) (by first | exact Nat.le_of_ble_eq_true rfl | (show _ ≤ 72; omega)) (by first | exact Nat.le_of_ble_eq_true rfl | (show _ ≤ 1522; omega)) (fun q42 => ([zO h0 5 [.ref (u9 0), .ref q16, .ref q28, .ref q36, .null], zO (u9 0) 2 [.ref (u9 1), .ref (u9 2), .ref (u9 3), zi 0], zO (u9 1) 0 [.ref (u9 4), .ref (u9 5), zi 0], zAI ct (u9 4) 40 (zN (fun _ => 0)), zAI ct (u9 5) 40 (zN (fun _ => 0)), zO (u9 2) 4 [.ref (u9 6), zi 0, zi 0], zAI ct (u9 6) 64 (zN (fun _ => 0)), zAI ct (u9 3) 4 (ps0 4), zO q16 1 [.ref (u20.1), zi 0, zi 0], zAS ct (u20.1) 6 (u20.2.1), zAS ct q28 2 (fun _ => none), zAZ ct q36 2 (fun _ => 0), zO q42 3 [.null, zi 0]] ++ (stR ct u20.2.2 (fun _ => st0) (List.range 6)))) (fun _ => zp_new) (fun q42 => ?_)
  refine z_dup Z dX6_init_45 rfl ?_
  refine z_ctorN (rest := [.ref q42, .ref h0]) Z hN9 dX6_init_46 (zc_X4_init l D ct q42) ⟨va_cnB (host := RX6) 0 Z.1.2.2.2.2 gX6_init_X4_init_n33 rfl rfl rfl (hN9.1 _ (by decide)) (Z.1.2.2.2.2 _ zlk_X6_init_iX4) (by decide +kernel) ⟨Nat.le_of_ble_eq_true rfl, Nat.le_of_ble_eq_true rfl⟩, rfl, Z.1.2.2.2.2 _ zlk_X6_init_in33⟩ rfl (Nat.le_of_ble_eq_true rfl) ⟨(by first | exact Nat.le_of_ble_eq_true rfl | (show _ ≤ 72; omega)), (by first | exact Nat.le_of_ble_eq_true rfl | (show _ ≤ 1522; omega))⟩ (zcut_of [false, false, false, false, false, false, false, false, false, false, false, false, true] rfl rfl) (fun u46 => ([zO h0 5 [.ref (u9 0), .ref q16, .ref q28, .ref q36, .null], zO (u9 0) 2 [.ref (u9 1), .ref (u9 2), .ref (u9 3), zi 0], zO (u9 1) 0 [.ref (u9 4), .ref (u9 5), zi 0], zAI ct (u9 4) 40 (zN (fun _ => 0)), zAI ct (u9 5) 40 (zN (fun _ => 0)), zO (u9 2) 4 [.ref (u9 6), zi 0, zi 0], zAI ct (u9 6) 64 (zN (fun _ => 0)), zAI ct (u9 3) 4 (ps0 4), zO q16 1 [.ref (u20.1), zi 0, zi 0], zAS ct (u20.1) 6 (u20.2.1), zAS ct q28 2 (fun _ => none), zAZ ct q36 2 (fun _ => 0), zO q42 3 [.ref u46, zi 0], zAI ct u46 80 (zN (fun _ => 0))] ++ (stR ct u20.2.2 (fun _ => st0) (List.range 6)))) (fun u46 => (zp_mid (E := [zO h0 5 [.ref (u9 0), .ref q16, .ref q28, .ref q36, .null], zO (u9 0) 2 [.ref (u9 1), .ref (u9 2), .ref (u9 3), zi 0], zO (u9 1) 0 [.ref (u9 4), .ref (u9 5), zi 0], zAI ct (u9 4) 40 (zN (fun _ => 0)), zAI ct (u9 5) 40 (zN (fun _ => 0)), zO (u9 2) 4 [.ref (u9 6), zi 0, zi 0], zAI ct (u9 6) 64 (zN (fun _ => 0)), zAI ct (u9 3) 4 (ps0 4), zO q16 1 [.ref (u20.1), zi 0, zi 0], zAS ct (u20.1) 6 (u20.2.1), zAS ct q28 2 (fun _ => none), zAZ ct q36 2 (fun _ => 0)]) (T := stR ct u20.2.2 (fun _ => st0) (List.range 6)) (A := [zO q42 3 [.ref u46, zi 0], zAI ct u46 80 (zN (fun _ => 0))]))) rfl (fun u46 hu46 => ?_)
  refine z_putF (ty := .object "HashedDirectory$Text") Z dX6_init_49 hnm zin_X6_init_X6 tyX6 tyX6_ok nmX6 0 4 ([zO h0 5 [.ref (u9 0), .ref q16, .ref q28, .ref q36, .ref q42], zO (u9 0) 2 [.ref (u9 1), .ref (u9 2), .ref (u9 3), zi 0], zO (u9 1) 0 [.ref (u9 4), .ref (u9 5), zi 0], zAI ct (u9 4) 40 (zN (fun _ => 0)), zAI ct (u9 5) 40 (zN (fun _ => 0)), zO (u9 2) 4 [.ref (u9 6), zi 0, zi 0], zAI ct (u9 6) 64 (zN (fun _ => 0)), zAI ct (u9 3) 4 (ps0 4), zO q16 1 [.ref (u20.1), zi 0, zi 0], zAS ct (u20.1) 6 (u20.2.1), zAS ct q28 2 (fun _ => none), zAZ ct q36 2 (fun _ => 0), zO q42 3 [.ref u46, zi 0], zAI ct u46 80 (zN (fun _ => 0))] ++ (stR ct u20.2.2 (fun _ => st0) (List.range 6))) rfl rfl (by decide) zlk_X6_init_34 rfl rfl (by decide +kernel) rfl rfl (Nat.le_of_ble_eq_true rfl) rfl ?_
  refine z_iconst (v := 0) Z dX6_init_52 rfl ?_
  refine z_istore_n Z dX6_init_53 [(1, zi 0), (0, .ref h0)] (by decide) rfl ?_
  refine z_lsub [1, 0] [(0, .ref h0), (1, zi 0)] rfl ?_
  refine z_widen (56 + 7 * 0) (1206 + 158 * 0) (by omega) (by omega) ?_
  have LOOP54 : ∀ (N0 : Nat) (i : Nat) (fs : Nat → Option Nat) (qa : Nat → Nat → Nat) (x1 : Int), 3 - i < N0 → x1 = ((i : Nat) : Int) → (i ≤ 2) → (∀ k, k < i → fs k = some (qa k 0)) → zW p l e ({ frames := 4, cells := 72, slots := 1522, locals := 74 } : Room) s m ([.ref h0] : List Value).toArray below meth c D A 2 Q (56 + 7 * i) (1206 + 158 * i) ([zO h0 5 [.ref (u9 0), .ref q16, .ref q28, .ref q36, .ref q42], zO (u9 0) 2 [.ref (u9 1), .ref (u9 2), .ref (u9 3), zi 0], zO (u9 1) 0 [.ref (u9 4), .ref (u9 5), zi 0], zAI ct (u9 4) 40 (zN (fun _ => 0)), zAI ct (u9 5) 40 (zN (fun _ => 0)), zO (u9 2) 4 [.ref (u9 6), zi 0, zi 0], zAI ct (u9 6) 64 (zN (fun _ => 0)), zAI ct (u9 3) 4 (ps0 4), zO q16 1 [.ref (u20.1), zi 0, zi 0], zAS ct (u20.1) 6 (u20.2.1), zAS ct q28 2 fs, zAZ ct q36 2 (fun _ => 0), zO q42 3 [.ref u46, zi 0], zAI ct u46 80 (zN (fun _ => 0))] ++ (stR ct u20.2.2 (fun _ => st0) (List.range 6) ++ (stR ct qa (fun _ => st0) (List.range i)))) [(0, .ref h0), (1, zi x1)] 54 [] := by
    intro N0
    induction N0 with
    | zero => intro i fs qa x1 hm0; exact absurd hm0 (Nat.not_lt_zero _)
    | succ N0 ih0 =>
      intro i fs qa x1 hm0 ex1 hi hfs
      subst ex1
      refine z_iload_n Z dX6_init_54 1 rfl ?_
      refine z_iconst (v := 2) Z dX6_init_55 rfl ?_
      refine z_icmp_ge Z 78 dX6_init_56 (by decide) (by omega) (by omega) (fun h56 => ?_) (fun h56 => ?_)
      · have hi2 : i = 2 := by omega
        subst hi2
        refine z_widen 72 1522 (by omega) (by omega) ?_
        refine zW_perm ([zO h0 5 [.ref (u9 0), .ref q16, .ref q28, .ref q36, .ref q42], zO (u9 0) 2 [.ref (u9 1), .ref (u9 2), .ref (u9 3), zi 0], zO (u9 1) 0 [.ref (u9 4), .ref (u9 5), zi 0], zAI ct (u9 4) 40 (zN (fun _ => 0)), zAI ct (u9 5) 40 (zN (fun _ => 0)), zO (u9 2) 4 [.ref (u9 6), zi 0, zi 0], zAI ct (u9 6) 64 (zN (fun _ => 0)), zAI ct (u9 3) 4 (ps0 4), zO q42 3 [.ref u46, zi 0], zAI ct u46 80 (zN (fun _ => 0)), zO q16 1 [.ref (u20.1), zi 0, zi 0], zAS ct (u20.1) 6 (u20.2.1), zAS ct q28 2 fs, zAZ ct q36 2 (fun _ => 0)] ++ (stR ct u20.2.2 (fun _ => st0) (List.range 6) ++ (stR ct qa (fun _ => st0) (List.range 2)))) (zp_swap (P := [zO h0 5 [.ref (u9 0), .ref q16, .ref q28, .ref q36, .ref q42], zO (u9 0) 2 [.ref (u9 1), .ref (u9 2), .ref (u9 3), zi 0], zO (u9 1) 0 [.ref (u9 4), .ref (u9 5), zi 0], zAI ct (u9 4) 40 (zN (fun _ => 0)), zAI ct (u9 5) 40 (zN (fun _ => 0)), zO (u9 2) 4 [.ref (u9 6), zi 0, zi 0], zAI ct (u9 6) 64 (zN (fun _ => 0)), zAI ct (u9 3) 4 (ps0 4)]) (B := [zO q16 1 [.ref (u20.1), zi 0, zi 0], zAS ct (u20.1) 6 (u20.2.1), zAS ct q28 2 fs, zAZ ct q36 2 (fun _ => 0)]) (C := [zO q42 3 [.ref u46, zi 0], zAI ct u46 80 (zN (fun _ => 0))])) ?_
        exact hR _ _ (u9, (q16, u20.1, u20.2.1, u20.2.2), (q28, q36, fs, qa), q42, u46) ⟨hu20, hfs⟩ dX6_init_78
      · refine z_aload_n Z dX6_init_59 0 rfl ?_
        refine z_get Z dX6_init_60 zin_X6_init_X6 0 2 rfl rfl (by decide) zlk_X6_init_23 rfl ?_
        refine z_iload_n Z dX6_init_63 1 rfl ?_
        refine z_new (ci := 2) (fs := [.null, .null, .null, zi 0]) Z dX6_init_64 zin_X6_init_X3 tyX3 tyX3_ok zlk_X6_init_c9 zlk_X6_init_nX3 zlk_X6_init_iX3 rfl (fun j hj => by rcases (show j = 0 ∨ j = 1 ∨ j = 2 ∨ j = 3 by omega) with rfl | rfl | rfl | rfl <;> rfl) (by first | exact Nat.le_of_ble_eq_true rfl | (show _ ≤ 72; omega)) (by first | exact Nat.le_of_ble_eq_true rfl | (show _ ≤ 1522; omega)) (fun q64 => ([zO h0 5 [.ref (u9 0), .ref q16, .ref q28, .ref q36, .ref q42], zO (u9 0) 2 [.ref (u9 1), .ref (u9 2), .ref (u9 3), zi 0], zO (u9 1) 0 [.ref (u9 4), .ref (u9 5), zi 0], zAI ct (u9 4) 40 (zN (fun _ => 0)), zAI ct (u9 5) 40 (zN (fun _ => 0)), zO (u9 2) 4 [.ref (u9 6), zi 0, zi 0], zAI ct (u9 6) 64 (zN (fun _ => 0)), zAI ct (u9 3) 4 (ps0 4), zO q16 1 [.ref (u20.1), zi 0, zi 0], zAS ct (u20.1) 6 (u20.2.1), zAS ct q28 2 fs, zAZ ct q36 2 (fun _ => 0), zO q42 3 [.ref u46, zi 0], zAI ct u46 80 (zN (fun _ => 0)), zO q64 2 [.null, .null, .null, zi 0]] ++ (stR ct u20.2.2 (fun _ => st0) (List.range 6) ++ (stR ct qa (fun _ => st0) (List.range i))))) (fun _ => zp_new) (fun q64 => ?_)
        refine z_dup Z dX6_init_67 rfl ?_
        refine z_ctor (rest := [.ref q64, zi ((i : Nat) : Int), .ref q28]) Z hN9 dX6_init_68 (zc_X3_init l D ct q64) ⟨callB_of 0 Z.1.2.2.2.2 gX6_init_X3_init rfl rfl rfl (Z.1.2.2.2.2 _ zlk_X6_init_iX3) (Z.1.2.2.2.2 _ zlk_X6_init_m11) (by decide +kernel) ⟨Nat.le_of_ble_eq_true rfl, Nat.le_of_ble_eq_true rfl⟩, rfl, Z.1.2.2.2.2 _ zlk_X6_init_in11⟩ rfl (Nat.le_of_ble_eq_true rfl) ⟨(by first | exact Nat.le_of_ble_eq_true rfl | (show _ ≤ 72; omega)), (by first | exact Nat.le_of_ble_eq_true rfl | (show _ ≤ 1522; omega))⟩ (zcut_of [false, false, false, false, false, false, false, false, false, false, false, false, false, false, true] rfl rfl) (fun u68 => ([zO h0 5 [.ref (u9 0), .ref q16, .ref q28, .ref q36, .ref q42], zO (u9 0) 2 [.ref (u9 1), .ref (u9 2), .ref (u9 3), zi 0], zO (u9 1) 0 [.ref (u9 4), .ref (u9 5), zi 0], zAI ct (u9 4) 40 (zN (fun _ => 0)), zAI ct (u9 5) 40 (zN (fun _ => 0)), zO (u9 2) 4 [.ref (u9 6), zi 0, zi 0], zAI ct (u9 6) 64 (zN (fun _ => 0)), zAI ct (u9 3) 4 (ps0 4), zO q16 1 [.ref (u20.1), zi 0, zi 0], zAS ct (u20.1) 6 (u20.2.1), zAS ct q28 2 fs, zAZ ct q36 2 (fun _ => 0), zO q42 3 [.ref u46, zi 0], zAI ct u46 80 (zN (fun _ => 0)), zO (u68 0) 2 [.ref (u68 1), .ref (u68 2), .ref (u68 3), zi 0], zO (u68 1) 0 [.ref (u68 4), .ref (u68 5), zi 0], zAI ct (u68 4) 40 (zN (fun _ => 0)), zAI ct (u68 5) 40 (zN (fun _ => 0)), zO (u68 2) 4 [.ref (u68 6), zi 0, zi 0], zAI ct (u68 6) 64 (zN (fun _ => 0)), zAI ct (u68 3) 4 (ps0 4)] ++ (stR ct u20.2.2 (fun _ => st0) (List.range 6) ++ (stR ct qa (fun _ => st0) (List.range i))))) (fun u68 => (zp_mid (E := [zO h0 5 [.ref (u9 0), .ref q16, .ref q28, .ref q36, .ref q42], zO (u9 0) 2 [.ref (u9 1), .ref (u9 2), .ref (u9 3), zi 0], zO (u9 1) 0 [.ref (u9 4), .ref (u9 5), zi 0], zAI ct (u9 4) 40 (zN (fun _ => 0)), zAI ct (u9 5) 40 (zN (fun _ => 0)), zO (u9 2) 4 [.ref (u9 6), zi 0, zi 0], zAI ct (u9 6) 64 (zN (fun _ => 0)), zAI ct (u9 3) 4 (ps0 4), zO q16 1 [.ref (u20.1), zi 0, zi 0], zAS ct (u20.1) 6 (u20.2.1), zAS ct q28 2 fs, zAZ ct q36 2 (fun _ => 0), zO q42 3 [.ref u46, zi 0], zAI ct u46 80 (zN (fun _ => 0))]) (T := stR ct u20.2.2 (fun _ => st0) (List.range 6) ++ (stR ct qa (fun _ => st0) (List.range i))) (A := [zO (u68 0) 2 [.ref (u68 1), .ref (u68 2), .ref (u68 3), zi 0], zO (u68 1) 0 [.ref (u68 4), .ref (u68 5), zi 0], zAI ct (u68 4) 40 (zN (fun _ => 0)), zAI ct (u68 5) 40 (zN (fun _ => 0)), zO (u68 2) 4 [.ref (u68 6), zi 0, zi 0], zAI ct (u68 6) 64 (zN (fun _ => 0)), zAI ct (u68 3) 4 (ps0 4)]))) rfl (fun u68 hu68 => ?_)
        subst hu68
        refine z_aast (k := i) Z dX6_init_71 10 14 rfl rfl (by omega) ⟨by omega, by omega⟩ ([zO h0 5 [.ref (u9 0), .ref q16, .ref q28, .ref q36, .ref q42], zO (u9 0) 2 [.ref (u9 1), .ref (u9 2), .ref (u9 3), zi 0], zO (u9 1) 0 [.ref (u9 4), .ref (u9 5), zi 0], zAI ct (u9 4) 40 (zN (fun _ => 0)), zAI ct (u9 5) 40 (zN (fun _ => 0)), zO (u9 2) 4 [.ref (u9 6), zi 0, zi 0], zAI ct (u9 6) 64 (zN (fun _ => 0)), zAI ct (u9 3) 4 (ps0 4), zO q16 1 [.ref (u20.1), zi 0, zi 0], zAS ct (u20.1) 6 (u20.2.1), zAS ct q28 2 (zU fs i (some (u68 0))), zAZ ct q36 2 (fun _ => 0), zO q42 3 [.ref u46, zi 0], zAI ct u46 80 (zN (fun _ => 0)), zO (u68 0) 2 [.ref (u68 1), .ref (u68 2), .ref (u68 3), zi 0], zO (u68 1) 0 [.ref (u68 4), .ref (u68 5), zi 0], zAI ct (u68 4) 40 (zN (fun _ => 0)), zAI ct (u68 5) 40 (zN (fun _ => 0)), zO (u68 2) 4 [.ref (u68 6), zi 0, zi 0], zAI ct (u68 6) 64 (zN (fun _ => 0)), zAI ct (u68 3) 4 (ps0 4)] ++ (stR ct u20.2.2 (fun _ => st0) (List.range 6) ++ (stR ct qa (fun _ => st0) (List.range i)))) rfl ?_
        refine zW_perm ([zO h0 5 [.ref (u9 0), .ref q16, .ref q28, .ref q36, .ref q42], zO (u9 0) 2 [.ref (u9 1), .ref (u9 2), .ref (u9 3), zi 0], zO (u9 1) 0 [.ref (u9 4), .ref (u9 5), zi 0], zAI ct (u9 4) 40 (zN (fun _ => 0)), zAI ct (u9 5) 40 (zN (fun _ => 0)), zO (u9 2) 4 [.ref (u9 6), zi 0, zi 0], zAI ct (u9 6) 64 (zN (fun _ => 0)), zAI ct (u9 3) 4 (ps0 4), zO q16 1 [.ref (u20.1), zi 0, zi 0], zAS ct (u20.1) 6 (u20.2.1), zAS ct q28 2 (zU fs i (some (u68 0))), zAZ ct q36 2 (fun _ => 0), zO q42 3 [.ref u46, zi 0], zAI ct u46 80 (zN (fun _ => 0))] ++ (stR ct u20.2.2 (fun _ => st0) (List.range 6) ++ (stR ct (zU qa i u68) (fun _ => st0) (List.range (i + 1))))) (zp_in2 (E := [zO h0 5 [.ref (u9 0), .ref q16, .ref q28, .ref q36, .ref q42], zO (u9 0) 2 [.ref (u9 1), .ref (u9 2), .ref (u9 3), zi 0], zO (u9 1) 0 [.ref (u9 4), .ref (u9 5), zi 0], zAI ct (u9 4) 40 (zN (fun _ => 0)), zAI ct (u9 5) 40 (zN (fun _ => 0)), zO (u9 2) 4 [.ref (u9 6), zi 0, zi 0], zAI ct (u9 6) 64 (zN (fun _ => 0)), zAI ct (u9 3) 4 (ps0 4), zO q16 1 [.ref (u20.1), zi 0, zi 0], zAS ct (u20.1) 6 (u20.2.1), zAS ct q28 2 (zU fs i (some (u68 0))), zAZ ct q36 2 (fun _ => 0), zO q42 3 [.ref u46, zi 0], zAI ct u46 80 (zN (fun _ => 0))]) (H := stR ct u20.2.2 (fun _ => st0) (List.range 6)) (T := stR ct qa (fun _ => st0) (List.range i)) (A := (stC ct u68 st0)) (stR_push ct qa i u68 st0)) ?_
        refine z_iinc (v := ((i + 1 : Nat) : Int)) Z dX6_init_72 1 [(1, zi ((i + 1 : Nat) : Int)), (0, .ref h0)] rfl (by omega) (by decide) rfl ?_
        refine z_goto Z 54 dX6_init_75 (by decide) ?_
        refine z_lsub [1, 0] [(0, .ref h0), (1, zi ((i + 1 : Nat) : Int))] rfl ?_
        refine z_widen (56 + 7 * (i + 1)) (1206 + 158 * (i + 1)) (by omega) (by omega) ?_
        exact ih0 (i + 1) (zU fs i (some (u68 0))) (zU qa i u68) _ (by omega) (by first | rfl | omega)  (by first | assumption | omega) (zU_ff hfs)
  exact LOOP54 (3 - 0 + 1) 0 (fun _ => none) (fun _ _ => 0) _ (Nat.lt_succ_self _) (by first | rfl | omega)  (by first | assumption | omega) (fun k hk => absurd hk (Nat.not_lt_zero k))
