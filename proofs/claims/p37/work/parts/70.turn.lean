/-! the law: its turns -/
def LJ (t : Nat) (s : StV) (h : HsV) (fl : Nat → Int) (qv : Nat → StV) (tx : Nat → Nat) (len : Nat) : Prop :=
  okW s h fl qv tx len ∧ fl 0 = 1 ∧ (Gd (qv 0) ∧ Bd t (qv 0)) ∧ Bd t s
theorem LJ_b0 {t : Nat} {s : StV} {h : HsV} {fl : Nat → Int} {qv : Nat → StV} {tx : Nat → Nat} {len : Nat} (J : LJ t s h fl qv tx len) (ht : t < 61) : s.2.2.2.2.2.2.2 < 1000 ∧ (s.2.2.2.2.2.1 ≤ 100000 ∧ s.2.2.2.2.2.2.1 ≤ 100000) := by
  obtain ⟨b1, b2, b3⟩ := J.2.2.2
  exact ⟨by omega, by omega, by omega⟩
theorem LJ_b {t : Nat} {s : StV} {h : HsV} {fl : Nat → Int} {qv : Nat → StV} {tx : Nat → Nat} {len : Nat} (J : LJ (t + 1) s h fl qv tx len) (ht : t < 60) : s.2.2.2.2.2.2.2 < 1000 ∧ (s.2.2.2.2.2.1 ≤ 100000 ∧ s.2.2.2.2.2.2.1 ≤ 100000) := LJ_b0 J (by omega)
theorem zU_fl {fl : Nat → Int} (h : ∀ j, j < 2 → fl j = 0 ∨ fl j = 1) : ∀ j, j < 2 → zU fl 0 1 j = 0 ∨ zU fl 0 1 j = 1 := by
  intro j hj
  unfold zU
  split
  · exact .inr rfl
  · exact h j hj
theorem LJ_save1 {t : Nat} {s : StV} {h : HsV} {fl : Nat → Int} {qv : Nat → StV} {tx : Nat → Nat} {len : Nat} (J : LJ t s h fl qv tx len) : okW s h (zU fl 0 1) (zU qv 0 s) tx len := ⟨J.1.1, J.1.2.1, zU_fl J.1.2.2.1, J.1.2.2.2⟩
theorem LJ_save {t : Nat} {s : StV} {h : HsV} {fl : Nat → Int} {qv : Nat → StV} {tx : Nat → Nat} {len : Nat} (J : LJ t s h fl qv tx len) : LJ t s h (zU fl 0 1) (zU qv 0 s) tx len := by
  refine ⟨LJ_save1 J, zU_s _ _ _, ?_, J.2.2.2⟩
  rw [zU_s]
  exact ⟨J.1.1, J.2.2.2⟩
theorem hc_more {s : StV} {h : HsV} (hc : h.2.1 < 6) : (phH s h).2.1 = h.2.1 + 1 := by
  show phK h.2.1 + 1 = _
  unfold phK
  rw [if_neg (by omega)]
theorem hc_full {s : StV} {h : HsV} (hc : h.2.1 = 6) : (phH s h).2.1 = 6 := by
  show phK h.2.1 + 1 = _
  unfold phK
  rw [if_pos hc]
  omega

section
variable {p : Program} {l : Launch} {e : Env} {s9 : State} {m : MethodId} {args : Array Value} {below : List Frame} {meth : Method} {c : Code} {D : va_G} {ct : zCT} {A9 : Nat → Prop} {Q : State → Prop} {A : AdV} {b L : Nat} {xs : Nat → Int32}
set_option maxHeartbeats 8000000 in
set_option maxRecDepth 100000 in
theorem law_270 (Z : zC p s9 m args c cL_law RL wsL_law 13 D ct A9) (hA : okA A) {t : Nat} (ht : t < 60) {x y : Int32} (KK : ∀ (s : StV) (h : HsV) (fl : Nat → Int) (qv : Nat → StV) (tx : Nat → Nat) (len : Nat), LJ (t + 1) s h fl qv tx len → zW p l e room_1 s9 m args below meth c D A9 13 Q 73 1527 (OW ct A s h fl qv tx len) [(0, .ref b), (1, .ref (A.1 0)), (2, zi 1), (3, zi ((t + 1 : Nat) : Int))] 31 []) (s : StV) (h : HsV) (fl : Nat → Int) (qv : Nat → StV) (tx : Nat → Nat) (len : Nat) (J : LJ (t + 1) s h fl qv tx len) : zW p l e room_1 s9 m args below meth c D A9 13 Q 73 1527 (OW ct A s h fl qv tx len) [(0, .ref b), (1, .ref (A.1 0)), (2, zi 1), (3, zi ((t : Nat) : Int)), (4, .int x), (5, .int y)] 270 [] := by
  refine z_iconst (v := 1) Z dL_law_270 rfl ?_
  refine z_goto Z 275 dL_law_271 (by decide) ?_
  refine z_istore_n Z dL_law_275 [(2, zi 1), (0, .ref b), (1, .ref (A.1 0)), (3, zi ((t : Nat) : Int)), (4, .int x), (5, .int y)] (by decide) rfl ?_
  refine z_iinc (v := ((t + 1 : Nat) : Int)) Z dL_law_276 3 [(3, zi ((t + 1 : Nat) : Int)), (2, zi 1), (0, .ref b), (1, .ref (A.1 0)), (4, .int x), (5, .int y)] rfl (by omega) (by decide) rfl ?_
  refine z_goto Z 31 dL_law_279 (by decide) ?_
  refine z_lsub [2, 3, 1, 0] [(0, .ref b), (1, .ref (A.1 0)), (2, zi 1), (3, zi ((t + 1 : Nat) : Int))] rfl ?_
  exact KK s h fl qv tx len J
set_option maxHeartbeats 8000000 in
set_option maxRecDepth 100000 in
theorem law_249 (Z : zC p s9 m args c cL_law RL wsL_law 13 D ct A9) (hA : okA A) {t : Nat} (ht : t < 60) {x y : Int32} (KK : ∀ (s : StV) (h : HsV) (fl : Nat → Int) (qv : Nat → StV) (tx : Nat → Nat) (len : Nat), LJ (t + 1) s h fl qv tx len → zW p l e room_1 s9 m args below meth c D A9 13 Q 73 1527 (OW ct A s h fl qv tx len) [(0, .ref b), (1, .ref (A.1 0)), (2, zi 1), (3, zi ((t + 1 : Nat) : Int))] 31 []) (s : StV) (h : HsV) (fl : Nat → Int) (qv : Nat → StV) (tx : Nat → Nat) (len : Nat) (J : LJ (t + 1) s h fl qv tx len) : zW p l e room_1 s9 m args below meth c D A9 13 Q 73 1527 (OW ct A s h fl qv tx len) [(0, .ref b), (1, .ref (A.1 0)), (2, zi 1), (3, zi ((t : Nat) : Int)), (4, .int x), (5, .int y)] 249 [] := by
  have hc40 : s.2.2.2.2.1 ≤ 40 := J.1.1.1.1.1
  refine z_iload_n Z dL_law_249 3 rfl ?_
  refine z_bipush (v := 23) Z dL_law_250 (by decide +kernel) ?_
  refine z_irem Z dL_law_252 (by omega) (by omega) ?_
  refine z_top (y := ((t % 23 : Nat) : Int)) (by omega) ?_
  refine z_bipush (v := 14) Z dL_law_253 (by decide +kernel) ?_
  refine z_icmp_ne Z 270 dL_law_255 (by decide) (by omega) (by omega) (fun h255 => ?_) (fun h255 => ?_)
  · exact law_270 Z hA ht KK s h fl qv tx len J
  · refine z_aload_n Z dL_law_258 1 rfl ?_
    refine z_iconst (v := 0) Z dL_law_259 rfl ?_
    refine z_callVw (rest := []) Z dL_law_260 5 0 _ _ rfl rfl rfl (zc_X6_save l D ct (A.1 0) (A.1 1) (A.1 2) (A.1 3) (A.1 4) (A.1 5) (A.1 6) (A.1 7) (A.1 8) (A.1 9) (A.1 10) (A.1 11) (s.1) (s.2.1) (s.2.2.1) (s.2.2.2.1) (s.2.2.2.2.1) (s.2.2.2.2.2.1) (s.2.2.2.2.2.2.1) (s.2.2.2.2.2.2.2) (A.1 12) (A.1 13) (h.1) (h.2.1) (A.2.1) (A.2.2.2.1) (h.2.2) (A.2.2.1) (fl) (A.2.2.2.2) (qv) (tx) (len) (0) ((J.1).1.1.1.1) ((J.1).1.1.1.2.1) ((J.1).1.1.1.2.2.1) ((J.1).1.1.1.2.2.2.1) ((J.1).1.1.2) ((J.1).1.1.1.2.2.2.2) ((J.1).2.1.1) ((J.1).2.1.2) (hA.1) (hA.2) ((J.1).2.2.1) ((J.1).2.2.2.1) ((J.1).2.2.2.2) (by first | assumption | omega)) rfl (cwV 1 Z.1.2.2.2.2 gL_law_X6_save rfl rfl rfl (by decide +kernel) ⟨Nat.le_of_ble_eq_true rfl, Nat.le_of_ble_eq_true rfl⟩) rfl (Nat.le_of_ble_eq_true rfl) ⟨Nat.le_of_ble_eq_true rfl, Nat.le_of_ble_eq_true rfl⟩ (fun _ => OW ct A s h (zU fl 0 1) (zU qv 0 s) tx len) (fun _ => [zi (((s.2.2.2.2.1) : Nat) : Int)]) (fun _ => rfl) rfl (fun _ => rfl) (fun _ _ => ?_)
    have k1 : okW s h (zU fl 0 1) (zU qv 0 s) tx len := LJ_save1 J
    refine z_aload_n Z dL_law_263 1 rfl ?_
    refine z_callVw (rest := [zi (((s.2.2.2.2.1) : Nat) : Int)]) Z dL_law_264 5 0 _ _ rfl rfl rfl (zc_X6_entries l D ct (A.1 0) (A.1 1) (A.1 2) (A.1 3) (A.1 4) (A.1 5) (A.1 6) (A.1 7) (A.1 8) (A.1 9) (A.1 10) (A.1 11) (s.1) (s.2.1) (s.2.2.1) (s.2.2.2.1) (s.2.2.2.2.1) (s.2.2.2.2.2.1) (s.2.2.2.2.2.2.1) (s.2.2.2.2.2.2.2) (A.1 12) (A.1 13) (h.1) (h.2.1) (A.2.1) (A.2.2.2.1) (h.2.2) (A.2.2.1) (zU fl 0 1) (A.2.2.2.2) (zU qv 0 s) (tx) (len) (k1.1.1.1.1) (k1.1.1.1.2.1) (k1.1.1.1.2.2.1) (k1.1.1.1.2.2.2.1) (k1.1.1.2) (k1.1.1.1.2.2.2.2) (k1.2.1.1) (k1.2.1.2) (hA.1) (hA.2) (k1.2.2.1) (k1.2.2.2.1) (k1.2.2.2.2)) rfl (cwV 0 Z.1.2.2.2.2 gL_law_X6_entries rfl rfl rfl (by decide +kernel) ⟨Nat.le_of_ble_eq_true rfl, Nat.le_of_ble_eq_true rfl⟩) rfl (Nat.le_of_ble_eq_true rfl) ⟨Nat.le_of_ble_eq_true rfl, Nat.le_of_ble_eq_true rfl⟩ (fun _ => OW ct A s h (zU fl 0 1) (zU qv 0 s) tx len) (fun _ => [zi (((s.2.2.2.2.1) : Nat) : Int), zi (((s.2.2.2.2.1) : Nat) : Int)]) (fun _ => rfl) rfl (fun _ => rfl) (fun _ _ => ?_)
    refine z_icmp_ne Z 274 dL_law_267 (by decide) (by omega) (by omega) (fun h267 => ?_) (fun h267 => ?_)
    · exfalso; first | contradiction | omega
    · exact law_270 Z hA ht KK s h (zU fl 0 1) (zU qv 0 s) tx len (LJ_save J)
set_option maxHeartbeats 8000000 in
set_option maxRecDepth 100000 in
theorem law_226 (Z : zC p s9 m args c cL_law RL wsL_law 13 D ct A9) (hA : okA A) {t : Nat} (ht : t < 60) {x y : Int32} (KK : ∀ (s : StV) (h : HsV) (fl : Nat → Int) (qv : Nat → StV) (tx : Nat → Nat) (len : Nat), LJ (t + 1) s h fl qv tx len → zW p l e room_1 s9 m args below meth c D A9 13 Q 73 1527 (OW ct A s h fl qv tx len) [(0, .ref b), (1, .ref (A.1 0)), (2, zi 1), (3, zi ((t + 1 : Nat) : Int))] 31 []) (s : StV) (h : HsV) (fl : Nat → Int) (qv : Nat → StV) (tx : Nat → Nat) (len : Nat) (J : LJ (t + 1) s h fl qv tx len) : zW p l e room_1 s9 m args below meth c D A9 13 Q 73 1527 (OW ct A s h fl qv tx len) [(0, .ref b), (1, .ref (A.1 0)), (2, zi 1), (3, zi ((t : Nat) : Int)), (4, .int x), (5, .int y)] 226 [] := by
  refine z_iload_n Z dL_law_226 3 rfl ?_
  refine z_iconst (v := 4) Z dL_law_227 rfl ?_
  refine z_irem Z dL_law_228 (by omega) (by omega) ?_
  refine z_top (y := ((t % 4 : Nat) : Int)) (by omega) ?_
  refine z_iconst (v := 3) Z dL_law_229 rfl ?_
  refine z_icmp_ne Z 249 dL_law_230 (by decide) (by omega) (by omega) (fun h230 => ?_) (fun h230 => ?_)
  · exact law_249 Z hA ht KK s h fl qv tx len J
  · refine z_aload_n Z dL_law_233 1 rfl ?_
    refine z_iload Z dL_law_234 5 rfl ?_
    refine z_iconst (v := 5) Z dL_law_236 rfl ?_
    refine z_ishrX (n := 5) Z dL_law_237 ?_
    refine z_bipush (v := 100) Z dL_law_238 (by decide +kernel) ?_
    refine z_callS0 (rest := [.ref (A.1 0)]) Z dL_law_240 (zc_L_up l D ct (srF y 5) (100) (by omega) (by omega)) (va_cwS 2 Z.1.2.2.2.2 gL_law_L_up rfl rfl rfl (by decide +kernel) ⟨Nat.le_of_ble_eq_true rfl, Nat.le_of_ble_eq_true rfl⟩) rfl (Nat.le_of_ble_eq_true rfl) ⟨Nat.le_of_ble_eq_true rfl, Nat.le_of_ble_eq_true rfl⟩ [zi ((upF (srF y 5) 100 : Nat) : Int), .ref (A.1 0)] rfl rfl ?_
    have hu240 := upF_lt (srF y 5) (n := 100) (by omega)
    refine z_callSw (rest := []) Z dL_law_243 (zc_L_isAdded l D ct A s h fl qv tx len (upF (srF y 5) 100) hA J.1 (by omega) ((LJ_b J ht).1) ((LJ_b J ht).2)) rfl (va_cwS 2 Z.1.2.2.2.2 gL_law_L_isAdded rfl rfl rfl (by decide +kernel) ⟨Nat.le_of_ble_eq_true rfl, Nat.le_of_ble_eq_true rfl⟩) rfl (Nat.le_of_ble_eq_true rfl) ⟨Nat.le_of_ble_eq_true rfl, Nat.le_of_ble_eq_true rfl⟩ (fun u243 => OW ct A s (u243.1) fl qv (u243.2.1) (u243.2.2)) (fun u243 => [zi 1]) (fun _ => rfl) rfl (fun _ => rfl) (fun u243 hu243 => ?_)
    have k1 : okW s (u243.1) fl qv (u243.2.1) (u243.2.2) := ⟨(J.1).1, hu243.1, (J.1).2.2.1, hu243.2⟩
    refine z_if_eq Z 274 dL_law_246 (by decide) (by omega) (fun h246 => ?_) (fun h246 => ?_)
    · exfalso; first | contradiction | omega
    · exact law_249 Z hA ht KK s (u243.1) fl qv (u243.2.1) (u243.2.2) ⟨k1, J.2⟩
set_option maxHeartbeats 8000000 in
set_option maxRecDepth 100000 in
theorem law_193 (Z : zC p s9 m args c cL_law RL wsL_law 13 D ct A9) (hA : okA A) {t : Nat} (ht : t < 60) {x y : Int32} (KK : ∀ (s : StV) (h : HsV) (fl : Nat → Int) (qv : Nat → StV) (tx : Nat → Nat) (len : Nat), LJ (t + 1) s h fl qv tx len → zW p l e room_1 s9 m args below meth c D A9 13 Q 73 1527 (OW ct A s h fl qv tx len) [(0, .ref b), (1, .ref (A.1 0)), (2, zi 1), (3, zi ((t + 1 : Nat) : Int))] 31 []) (s : StV) (h : HsV) (fl : Nat → Int) (qv : Nat → StV) (tx : Nat → Nat) (len : Nat) (J : LJ (t + 1) s h fl qv tx len) : zW p l e room_1 s9 m args below meth c D A9 13 Q 73 1527 (OW ct A s h fl qv tx len) [(0, .ref b), (1, .ref (A.1 0)), (2, zi 1), (3, zi ((t : Nat) : Int)), (4, .int x), (5, .int y)] 193 [] := by
  refine z_iload_n Z dL_law_193 2 rfl ?_
  refine z_if_eq Z 274 dL_law_194 (by decide) (by omega) (fun h194 => ?_) (fun h194 => ?_)
  · exfalso; first | contradiction | omega
  · refine z_aload_n Z dL_law_197 1 rfl ?_
    refine z_callSw (rest := []) Z dL_law_198 (zc_L_holds l D ct A s h fl qv tx len hA J.1) rfl (va_cwS 1 Z.1.2.2.2.2 gL_law_L_holds rfl rfl rfl (by decide +kernel) ⟨Nat.le_of_ble_eq_true rfl, Nat.le_of_ble_eq_true rfl⟩) rfl (Nat.le_of_ble_eq_true rfl) ⟨Nat.le_of_ble_eq_true rfl, Nat.le_of_ble_eq_true rfl⟩ (fun _ => OW ct A s h fl qv tx len) (fun _ => [zi 1]) (fun _ => rfl) rfl (fun _ => rfl) (fun _ _ => ?_)
    refine z_if_eq Z 274 dL_law_201 (by decide) (by omega) (fun h201 => ?_) (fun h201 => ?_)
    · exfalso; first | contradiction | omega
    · refine z_iload_n Z dL_law_204 3 rfl ?_
      refine z_iconst (v := 3) Z dL_law_205 rfl ?_
      refine z_irem Z dL_law_206 (by omega) (by omega) ?_
      refine z_top (y := ((t % 3 : Nat) : Int)) (by omega) ?_
      refine z_iconst (v := 1) Z dL_law_207 rfl ?_
      refine z_icmp_ne Z 226 dL_law_208 (by decide) (by omega) (by omega) (fun h208 => ?_) (fun h208 => ?_)
      · exact law_226 Z hA ht KK s h fl qv tx len J
      · refine z_aload_n Z dL_law_211 1 rfl ?_
        refine z_iload Z dL_law_212 4 rfl ?_
        refine z_iconst (v := 5) Z dL_law_214 rfl ?_
        refine z_ishrX (n := 5) Z dL_law_215 ?_
        refine z_iconst (v := 4) Z dL_law_216 rfl ?_
        refine z_callS0 (rest := [.ref (A.1 0)]) Z dL_law_217 (zc_L_up l D ct (srF x 5) (4) (by omega) (by omega)) (va_cwS 2 Z.1.2.2.2.2 gL_law_L_up rfl rfl rfl (by decide +kernel) ⟨Nat.le_of_ble_eq_true rfl, Nat.le_of_ble_eq_true rfl⟩) rfl (Nat.le_of_ble_eq_true rfl) ⟨Nat.le_of_ble_eq_true rfl, Nat.le_of_ble_eq_true rfl⟩ [zi ((upF (srF x 5) 4 : Nat) : Int), .ref (A.1 0)] rfl rfl ?_
        have hu217 := upF_lt (srF x 5) (n := 4) (by omega)
        refine z_callSw (rest := []) Z dL_law_220 (zc_L_isNext l D ct A s h fl qv tx len (upF (srF x 5) 4) hA J.1 (by omega)) rfl (va_cwS 2 Z.1.2.2.2.2 gL_law_L_isNext rfl rfl rfl (by decide +kernel) ⟨Nat.le_of_ble_eq_true rfl, Nat.le_of_ble_eq_true rfl⟩) rfl (Nat.le_of_ble_eq_true rfl) ⟨Nat.le_of_ble_eq_true rfl, Nat.le_of_ble_eq_true rfl⟩ (fun u220 => OW ct A s u220 fl qv tx len) (fun u220 => [zi 1]) (fun _ => rfl) rfl (fun _ => rfl) (fun u220 hu220 => ?_)
        have k1 : okW s u220 fl qv tx len := (J.1).st (J.1).1 hu220
        refine z_if_eq Z 274 dL_law_223 (by decide) (by omega) (fun h223 => ?_) (fun h223 => ?_)
        · exfalso; first | contradiction | omega
        · exact law_226 Z hA ht KK s u220 fl qv tx len ⟨k1, J.2⟩
set_option maxHeartbeats 8000000 in
set_option maxRecDepth 100000 in
theorem law_turn (Z : zC p s9 m args c cL_law RL wsL_law 13 D ct A9) (hA : okA A) (hX : va_X b L xs s9 s9.heap) (hbl : b < s9.heap.size) (hbA : ¬ A9 b) (hL : L ≤ 260) (hend : ∀ (ws : va_W) (lv : List (Nat × Value)), zW p l e room_1 s9 m args below meth c D A9 13 Q 73 1527 ws lv 283 [zi 1]) {t : Nat} (ht9 : t ≤ 60) (KK : t < 60 → ∀ (s : StV) (h : HsV) (fl : Nat → Int) (qv : Nat → StV) (tx : Nat → Nat) (len : Nat), LJ (t + 1) s h fl qv tx len → zW p l e room_1 s9 m args below meth c D A9 13 Q 73 1527 (OW ct A s h fl qv tx len) [(0, .ref b), (1, .ref (A.1 0)), (2, zi 1), (3, zi ((t + 1 : Nat) : Int))] 31 []) (s : StV) (h : HsV) (fl : Nat → Int) (qv : Nat → StV) (tx : Nat → Nat) (len : Nat) (J : LJ t s h fl qv tx len) : zW p l e room_1 s9 m args below meth c D A9 13 Q 73 1527 (OW ct A s h fl qv tx len) [(0, .ref b), (1, .ref (A.1 0)), (2, zi 1), (3, zi ((t : Nat) : Int))] 31 [] := by
  refine z_iload_n Z dL_law_31 3 rfl ?_
  refine z_bipush (v := 60) Z dL_law_32 (by decide +kernel) ?_
  refine z_icmp_ge Z 282 dL_law_34 (by decide) (by omega) (by omega) (fun h34 => ?_) (fun h34 => ?_)
  · refine z_iload_n Z dL_law_282 2 rfl ?_
    exact hend _ _
  · refine z_iload_n Z dL_law_37 2 rfl ?_
    refine z_if_eq Z 282 dL_law_38 (by decide) (by omega) (fun h38 => ?_) (fun h38 => ?_)
    · exfalso; first | contradiction | omega
    · refine z_aload_n Z dL_law_41 0 rfl ?_
      refine z_iconst (v := 2) Z dL_law_42 rfl ?_
      refine z_iload_n Z dL_law_43 3 rfl ?_
      refine z_imul Z dL_law_44 ?_
      refine z_top (y := ((2 * t : Nat) : Int)) (by omega) ?_
      refine z_callC (k := 2 * t) (rest := []) Z dL_law_45 hX hbl hbA (zc_L_cell l D ct b L xs (2 * t) hL (by omega)) (va_cwS 2 Z.1.2.2.2.2 gL_law_L_cell rfl rfl rfl (by decide +kernel) ⟨Nat.le_of_ble_eq_true rfl, Nat.le_of_ble_eq_true rfl⟩) rfl (Nat.le_of_ble_eq_true rfl) ⟨Nat.le_of_ble_eq_true rfl, Nat.le_of_ble_eq_true rfl⟩ ?_
      refine z_istore Z dL_law_48 [(4, .int (ceV L xs (2 * t))), (0, .ref b), (1, .ref (A.1 0)), (2, zi 1), (3, zi ((t : Nat) : Int))] (by decide) rfl ?_
      refine z_aload_n Z dL_law_50 1 rfl ?_
      refine z_iconst (v := 2) Z dL_law_51 rfl ?_
      refine z_iload_n Z dL_law_52 4 rfl ?_
      refine z_imul Z dL_law_53 ?_
      refine z_top (y := ((2 * t : Nat) : Int)) (by omega) ?_
      refine z_iconst (v := 1) Z dL_law_54 rfl ?_
      refine z_iadd Z dL_law_55 ?_
      refine z_top (y := (((2 * t) + 1 : Nat) : Int)) (by omega) ?_
      refine z_callC (k := (2 * t) + 1) (rest := []) Z dL_law_56 hX hbl hbA (zc_L_cell l D ct b L xs ((2 * t) + 1) hL (by omega)) (va_cwS 2 Z.1.2.2.2.2 gL_law_L_cell rfl rfl rfl (by decide +kernel) ⟨Nat.le_of_ble_eq_true rfl, Nat.le_of_ble_eq_true rfl⟩) rfl (Nat.le_of_ble_eq_true rfl) ⟨Nat.le_of_ble_eq_true rfl, Nat.le_of_ble_eq_true rfl⟩ ?_
      refine z_istore Z dL_law_59 [(5, .int (ceV L xs ((2 * t) + 1))), (4, .int (ceV L xs (2 * t))), (0, .ref b), (1, .ref (A.1 0)), (2, zi 1), (3, zi ((t : Nat) : Int))] (by decide) rfl ?_
      refine z_aload_n Z dL_law_61 3 rfl ?_
      refine z_callSw (rest := []) Z dL_law_62 (zc_L_told l D ct A s h fl qv tx len hA J.1) rfl (va_cwS 1 Z.1.2.2.2.2 gL_law_L_told rfl rfl rfl (by decide +kernel) ⟨Nat.le_of_ble_eq_true rfl, Nat.le_of_ble_eq_true rfl⟩) rfl (Nat.le_of_ble_eq_true rfl) ⟨Nat.le_of_ble_eq_true rfl, Nat.le_of_ble_eq_true rfl⟩ (fun _ => OW ct A s h fl qv tx len) (fun _ => [.long (tdF s)]) (fun _ => rfl) rfl (fun _ => rfl) (fun _ _ => ?_)
      refine z_lstore Z dL_law_65 [(6, .long (tdF s)), (5, .int (ceV L xs ((2 * t) + 1))), (4, .int (ceV L xs (2 * t))), (0, .ref b), (1, .ref (A.1 0)), (2, zi 1), (3, zi ((t : Nat) : Int))] (by decide) rfl ?_
      refine z_aload_n Z dL_law_67 4 rfl ?_
      refine z_callVw (rest := []) Z dL_law_68 5 0 _ _ rfl rfl rfl (zc_X6_savedStates l D ct (A.1 0) (A.1 1) (A.1 2) (A.1 3) (A.1 4) (A.1 5) (A.1 6) (A.1 7) (A.1 8) (A.1 9) (A.1 10) (A.1 11) (s.1) (s.2.1) (s.2.2.1) (s.2.2.2.1) (s.2.2.2.2.1) (s.2.2.2.2.2.1) (s.2.2.2.2.2.2.1) (s.2.2.2.2.2.2.2) (A.1 12) (A.1 13) (h.1) (h.2.1) (A.2.1) (A.2.2.2.1) (h.2.2) (A.2.2.1) (fl) (A.2.2.2.2) (qv) (tx) (len) ((J.1).1.1.1.1) ((J.1).1.1.1.2.1) ((J.1).1.1.1.2.2.1) ((J.1).1.1.1.2.2.2.1) ((J.1).1.1.2) ((J.1).1.1.1.2.2.2.2) ((J.1).2.1.1) ((J.1).2.1.2) (hA.1) (hA.2) ((J.1).2.2.1) ((J.1).2.2.2.1) ((J.1).2.2.2.2)) rfl (cwV 0 Z.1.2.2.2.2 gL_law_X6_savedStates rfl rfl rfl (by decide +kernel) ⟨Nat.le_of_ble_eq_true rfl, Nat.le_of_ble_eq_true rfl⟩) rfl (Nat.le_of_ble_eq_true rfl) ⟨Nat.le_of_ble_eq_true rfl, Nat.le_of_ble_eq_true rfl⟩ (fun _ => OW ct A s h fl qv tx len) (fun _ => [zi (((h.2.1) : Nat) : Int)]) (fun _ => rfl) rfl (fun _ => rfl) (fun _ _ => ?_)
      refine z_istore Z dL_law_71 [(8, zi (((h.2.1) : Nat) : Int)), (6, .long (tdF s)), (5, .int (ceV L xs ((2 * t) + 1))), (4, .int (ceV L xs (2 * t))), (0, .ref b), (1, .ref (A.1 0)), (2, zi 1), (3, zi ((t : Nat) : Int))] (by decide) rfl ?_
      have hok9 := act_ok (q := qv 0) J.1.1 J.2.2.1.1 J.2.2.2 J.2.2.1.2 (by omega) (ceV L xs (2 * t)) (ceV L xs (2 * t + 1))
      have hav9 := hok9.2
      have hhc9 : h.2.1 ≤ 6 := J.1.2.1.2
      refine z_aload_n Z dL_law_73 5 rfl ?_
      refine z_iload Z dL_law_74 3 rfl ?_
      refine z_iload Z dL_law_76 2 rfl ?_
      refine z_callSw (rest := []) Z dL_law_78 (zc_L_act l D ct A s h fl qv tx len (ceV L xs (2 * t)) (ceV L xs ((2 * t) + 1)) hA J.1 J.2.1 J.2.2.1.1 (LJ_b0 J (by omega)).1) rfl (va_cwS 3 Z.1.2.2.2.2 gL_law_L_act rfl rfl rfl (by decide +kernel) ⟨Nat.le_of_ble_eq_true rfl, Nat.le_of_ble_eq_true rfl⟩) rfl (Nat.le_of_ble_eq_true rfl) ⟨Nat.le_of_ble_eq_true rfl, Nat.le_of_ble_eq_true rfl⟩ (fun u78 => OW ct A ((actF (qv 0) s (ceV L xs (2 * t)) (ceV L xs ((2 * t) + 1))).1) (phH s h) fl qv (tyT tx (upF (srF (ceV L xs ((2 * t) + 1)) 2) 100)) u78) (fun u78 => [zi ((actF (qv 0) s (ceV L xs (2 * t)) (ceV L xs ((2 * t) + 1))).2)]) (fun _ => rfl) rfl (fun _ => rfl) (fun u78 hu78 => ?_)
      have k1 : okW ((actF (qv 0) s (ceV L xs (2 * t)) (ceV L xs ((2 * t) + 1))).1) (phH s h) fl qv (tyT tx (upF (srF (ceV L xs ((2 * t) + 1)) 2) 100)) u78 := ⟨hok9.1.1, okH_ph _ (J.1).2.1, (J.1).2.2.1, hu78, tyT_lt (J.1).2.2.2.2 _⟩
      refine z_istore Z dL_law_81 [(9, zi ((actF (qv 0) s (ceV L xs (2 * t)) (ceV L xs ((2 * t) + 1))).2)), (8, zi (((h.2.1) : Nat) : Int)), (6, .long (tdF s)), (5, .int (ceV L xs ((2 * t) + 1))), (4, .int (ceV L xs (2 * t))), (0, .ref b), (1, .ref (A.1 0)), (2, zi 1), (3, zi ((t : Nat) : Int))] (by decide) rfl ?_
      refine z_iload Z dL_law_83 0 rfl ?_
      refine z_if_lt Z 115 dL_law_85 (by decide) (by omega) (fun h85 => ?_) (fun h85 => ?_)
      · exfalso; first | contradiction | omega
      · refine z_aload_n Z dL_law_88 6 rfl ?_
        refine z_callVw (rest := []) Z dL_law_89 5 0 _ _ rfl rfl rfl (zc_X6_savedStates l D ct (A.1 0) (A.1 1) (A.1 2) (A.1 3) (A.1 4) (A.1 5) (A.1 6) (A.1 7) (A.1 8) (A.1 9) (A.1 10) (A.1 11) (((actF (qv 0) s (ceV L xs (2 * t)) (ceV L xs ((2 * t) + 1))).1).1) (((actF (qv 0) s (ceV L xs (2 * t)) (ceV L xs ((2 * t) + 1))).1).2.1) (((actF (qv 0) s (ceV L xs (2 * t)) (ceV L xs ((2 * t) + 1))).1).2.2.1) (((actF (qv 0) s (ceV L xs (2 * t)) (ceV L xs ((2 * t) + 1))).1).2.2.2.1) (((actF (qv 0) s (ceV L xs (2 * t)) (ceV L xs ((2 * t) + 1))).1).2.2.2.2.1) (((actF (qv 0) s (ceV L xs (2 * t)) (ceV L xs ((2 * t) + 1))).1).2.2.2.2.2.1) (((actF (qv 0) s (ceV L xs (2 * t)) (ceV L xs ((2 * t) + 1))).1).2.2.2.2.2.2.1) (((actF (qv 0) s (ceV L xs (2 * t)) (ceV L xs ((2 * t) + 1))).1).2.2.2.2.2.2.2) (A.1 12) (A.1 13) ((phH s h).1) ((phH s h).2.1) (A.2.1) (A.2.2.2.1) ((phH s h).2.2) (A.2.2.1) (fl) (A.2.2.2.2) (qv) (tyT tx (upF (srF (ceV L xs ((2 * t) + 1)) 2) 100)) (u78) (k1.1.1.1.1) (k1.1.1.1.2.1) (k1.1.1.1.2.2.1) (k1.1.1.1.2.2.2.1) (k1.1.1.2) (k1.1.1.1.2.2.2.2) (k1.2.1.1) (k1.2.1.2) (hA.1) (hA.2) (k1.2.2.1) (k1.2.2.2.1) (k1.2.2.2.2)) rfl (cwV 0 Z.1.2.2.2.2 gL_law_X6_savedStates rfl rfl rfl (by decide +kernel) ⟨Nat.le_of_ble_eq_true rfl, Nat.le_of_ble_eq_true rfl⟩) rfl (Nat.le_of_ble_eq_true rfl) ⟨Nat.le_of_ble_eq_true rfl, Nat.le_of_ble_eq_true rfl⟩ (fun _ => OW ct A ((actF (qv 0) s (ceV L xs (2 * t)) (ceV L xs ((2 * t) + 1))).1) (phH s h) fl qv (tyT tx (upF (srF (ceV L xs ((2 * t) + 1)) 2) 100)) u78) (fun _ => [zi ((((phH s h).2.1) : Nat) : Int)]) (fun _ => rfl) rfl (fun _ => rfl) (fun _ _ => ?_)
        refine z_iload Z dL_law_92 1 rfl ?_
        refine z_bipush (v := 6) Z dL_law_94 (by decide +kernel) ?_
        refine z_icmp_ge Z 106 dL_law_96 (by decide) (by omega) (by omega) (fun h96 => ?_) (fun h96 => ?_)
        · have hpk9 : (phH s h).2.1 = 6 := hc_full (by omega)
          refine z_bipush (v := 6) Z dL_law_106 (by decide +kernel) ?_
          refine z_icmp_ne Z 115 dL_law_108 (by decide) (by omega) (by omega) (fun h108 => ?_) (fun h108 => ?_)
          · exfalso; first | contradiction | omega
          · refine z_iconst (v := 1) Z dL_law_111 rfl ?_
            refine z_goto Z 116 dL_law_112 (by decide) ?_
            refine z_istore_n Z dL_law_116 [(2, zi 1), (9, zi ((actF (qv 0) s (ceV L xs (2 * t)) (ceV L xs ((2 * t) + 1))).2)), (8, zi (((h.2.1) : Nat) : Int)), (6, .long (tdF s)), (5, .int (ceV L xs ((2 * t) + 1))), (4, .int (ceV L xs (2 * t))), (0, .ref b), (1, .ref (A.1 0)), (3, zi ((t : Nat) : Int))] (by decide) rfl ?_
            refine z_iload_n Z dL_law_117 0 rfl ?_
            refine z_if_eq Z 193 dL_law_118 (by decide) (by omega) (fun h118 => ?_) (fun h118 => ?_)
            · exfalso; first | contradiction | omega
            · refine z_iload Z dL_law_121 5 rfl ?_
              refine z_bipush (v := 8) Z dL_law_123 (by decide +kernel) ?_
              refine z_ishrX (n := 8) Z dL_law_125 ?_
              refine z_iconst (v := 3) Z dL_law_126 rfl ?_
              refine z_iandX (n := 3) Z dL_law_127 ?_
              have hb127 := anF_le (srF (ceV L xs (2 * t)) 8) (n := 3) (by omega)
              refine z_if_ne Z 193 dL_law_128 (by decide) (by omega) (fun h128 => ?_) (fun h128 => ?_)
              · refine z_lsub [6, 7, 0, 8, 5, 4] [(0, .ref b), (1, .ref (A.1 0)), (2, zi 1), (3, zi ((t : Nat) : Int)), (4, .int (ceV L xs (2 * t))), (5, .int (ceV L xs ((2 * t) + 1)))] rfl ?_
                exact law_193 Z hA (show t < 60 by omega) (KK (by omega)) ((actF (qv 0) s (ceV L xs (2 * t)) (ceV L xs ((2 * t) + 1))).1) (phH s h) fl qv (tyT tx (upF (srF (ceV L xs ((2 * t) + 1)) 2) 100)) u78 ⟨k1, J.2.1, ⟨J.2.2.1.1, J.2.2.1.2.more⟩, hok9.1.2⟩
              · refine z_aload_n Z dL_law_131 7 rfl ?_
                refine z_callSw (rest := []) Z dL_law_132 (zc_L_told l D ct A ((actF (qv 0) s (ceV L xs (2 * t)) (ceV L xs ((2 * t) + 1))).1) (phH s h) fl qv (tyT tx (upF (srF (ceV L xs ((2 * t) + 1)) 2) 100)) u78 hA k1) rfl (va_cwS 1 Z.1.2.2.2.2 gL_law_L_told rfl rfl rfl (by decide +kernel) ⟨Nat.le_of_ble_eq_true rfl, Nat.le_of_ble_eq_true rfl⟩) rfl (Nat.le_of_ble_eq_true rfl) ⟨Nat.le_of_ble_eq_true rfl, Nat.le_of_ble_eq_true rfl⟩ (fun _ => OW ct A ((actF (qv 0) s (ceV L xs (2 * t)) (ceV L xs ((2 * t) + 1))).1) (phH s h) fl qv (tyT tx (upF (srF (ceV L xs ((2 * t) + 1)) 2) 100)) u78) (fun _ => [.long (tdF ((actF (qv 0) s (ceV L xs (2 * t)) (ceV L xs ((2 * t) + 1))).1))]) (fun _ => rfl) rfl (fun _ => rfl) (fun _ _ => ?_)
                refine z_lstore Z dL_law_135 [(10, .long (tdF ((actF (qv 0) s (ceV L xs (2 * t)) (ceV L xs ((2 * t) + 1))).1))), (2, zi 1), (9, zi ((actF (qv 0) s (ceV L xs (2 * t)) (ceV L xs ((2 * t) + 1))).2)), (8, zi (((h.2.1) : Nat) : Int)), (6, .long (tdF s)), (5, .int (ceV L xs ((2 * t) + 1))), (4, .int (ceV L xs (2 * t))), (0, .ref b), (1, .ref (A.1 0)), (3, zi ((t : Nat) : Int))] (by decide) rfl ?_
                refine z_aload_n Z dL_law_137 8 rfl ?_
                refine z_callVw (rest := []) Z dL_law_138 5 0 _ _ rfl rfl rfl (zc_X6_savedStates l D ct (A.1 0) (A.1 1) (A.1 2) (A.1 3) (A.1 4) (A.1 5) (A.1 6) (A.1 7) (A.1 8) (A.1 9) (A.1 10) (A.1 11) (((actF (qv 0) s (ceV L xs (2 * t)) (ceV L xs ((2 * t) + 1))).1).1) (((actF (qv 0) s (ceV L xs (2 * t)) (ceV L xs ((2 * t) + 1))).1).2.1) (((actF (qv 0) s (ceV L xs (2 * t)) (ceV L xs ((2 * t) + 1))).1).2.2.1) (((actF (qv 0) s (ceV L xs (2 * t)) (ceV L xs ((2 * t) + 1))).1).2.2.2.1) (((actF (qv 0) s (ceV L xs (2 * t)) (ceV L xs ((2 * t) + 1))).1).2.2.2.2.1) (((actF (qv 0) s (ceV L xs (2 * t)) (ceV L xs ((2 * t) + 1))).1).2.2.2.2.2.1) (((actF (qv 0) s (ceV L xs (2 * t)) (ceV L xs ((2 * t) + 1))).1).2.2.2.2.2.2.1) (((actF (qv 0) s (ceV L xs (2 * t)) (ceV L xs ((2 * t) + 1))).1).2.2.2.2.2.2.2) (A.1 12) (A.1 13) ((phH s h).1) ((phH s h).2.1) (A.2.1) (A.2.2.2.1) ((phH s h).2.2) (A.2.2.1) (fl) (A.2.2.2.2) (qv) (tyT tx (upF (srF (ceV L xs ((2 * t) + 1)) 2) 100)) (u78) (k1.1.1.1.1) (k1.1.1.1.2.1) (k1.1.1.1.2.2.1) (k1.1.1.1.2.2.2.1) (k1.1.1.2) (k1.1.1.1.2.2.2.2) (k1.2.1.1) (k1.2.1.2) (hA.1) (hA.2) (k1.2.2.1) (k1.2.2.2.1) (k1.2.2.2.2)) rfl (cwV 0 Z.1.2.2.2.2 gL_law_X6_savedStates rfl rfl rfl (by decide +kernel) ⟨Nat.le_of_ble_eq_true rfl, Nat.le_of_ble_eq_true rfl⟩) rfl (Nat.le_of_ble_eq_true rfl) ⟨Nat.le_of_ble_eq_true rfl, Nat.le_of_ble_eq_true rfl⟩ (fun _ => OW ct A ((actF (qv 0) s (ceV L xs (2 * t)) (ceV L xs ((2 * t) + 1))).1) (phH s h) fl qv (tyT tx (upF (srF (ceV L xs ((2 * t) + 1)) 2) 100)) u78) (fun _ => [zi ((((phH s h).2.1) : Nat) : Int)]) (fun _ => rfl) rfl (fun _ => rfl) (fun _ _ => ?_)
                refine z_iconst (v := 1) Z dL_law_141 rfl ?_
                refine z_isub Z dL_law_142 ?_
                refine z_top (y := ((((phH s h).2.1) - 1 : Nat) : Int)) (by omega) ?_
                refine z_istore Z dL_law_143 [(12, zi ((((phH s h).2.1) - 1 : Nat) : Int)), (10, .long (tdF ((actF (qv 0) s (ceV L xs (2 * t)) (ceV L xs ((2 * t) + 1))).1))), (2, zi 1), (9, zi ((actF (qv 0) s (ceV L xs (2 * t)) (ceV L xs ((2 * t) + 1))).2)), (8, zi (((h.2.1) : Nat) : Int)), (6, .long (tdF s)), (5, .int (ceV L xs ((2 * t) + 1))), (4, .int (ceV L xs (2 * t))), (0, .ref b), (1, .ref (A.1 0)), (3, zi ((t : Nat) : Int))] (by decide) rfl ?_
                refine z_aload_n Z dL_law_145 9 rfl ?_
                refine z_callVw (rest := []) Z dL_law_146 5 0 _ _ rfl rfl rfl (zc_X6_undo l D ct (A.1 0) (A.1 1) (A.1 2) (A.1 3) (A.1 4) (A.1 5) (A.1 6) (A.1 7) (A.1 8) (A.1 9) (A.1 10) (A.1 11) (((actF (qv 0) s (ceV L xs (2 * t)) (ceV L xs ((2 * t) + 1))).1).1) (((actF (qv 0) s (ceV L xs (2 * t)) (ceV L xs ((2 * t) + 1))).1).2.1) (((actF (qv 0) s (ceV L xs (2 * t)) (ceV L xs ((2 * t) + 1))).1).2.2.1) (((actF (qv 0) s (ceV L xs (2 * t)) (ceV L xs ((2 * t) + 1))).1).2.2.2.1) (((actF (qv 0) s (ceV L xs (2 * t)) (ceV L xs ((2 * t) + 1))).1).2.2.2.2.1) (((actF (qv 0) s (ceV L xs (2 * t)) (ceV L xs ((2 * t) + 1))).1).2.2.2.2.2.1) (((actF (qv 0) s (ceV L xs (2 * t)) (ceV L xs ((2 * t) + 1))).1).2.2.2.2.2.2.1) (((actF (qv 0) s (ceV L xs (2 * t)) (ceV L xs ((2 * t) + 1))).1).2.2.2.2.2.2.2) (A.1 12) (A.1 13) ((phH s h).1) ((phH s h).2.1) (A.2.1) (A.2.2.2.1) ((phH s h).2.2) (A.2.2.1) (fl) (A.2.2.2.2) (qv) (tyT tx (upF (srF (ceV L xs ((2 * t) + 1)) 2) 100)) (u78) (k1.1.1.1.1) (k1.1.1.1.2.1) (k1.1.1.1.2.2.1) (k1.1.1.1.2.2.2.1) (k1.1.1.2) (k1.1.1.1.2.2.2.2) (k1.2.1.1) (k1.2.1.2) (hA.1) (hA.2) (k1.2.2.1) (k1.2.2.2.1) (k1.2.2.2.2) (hc_pos _ _)) rfl (cwV 0 Z.1.2.2.2.2 gL_law_X6_undo rfl rfl rfl (by decide +kernel) ⟨Nat.le_of_ble_eq_true rfl, Nat.le_of_ble_eq_true rfl⟩) rfl (Nat.le_of_ble_eq_true rfl) ⟨Nat.le_of_ble_eq_true rfl, Nat.le_of_ble_eq_true rfl⟩ (fun _ => OW ct A (toH (phH s h)) (poH (phH s h)) fl qv (tyT tx (upF (srF (ceV L xs ((2 * t) + 1)) 2) 100)) u78) (fun _ => [zi ((((phH s h).2.1) - 1 : Nat) : Int)]) (fun _ => rfl) rfl (fun _ => rfl) (fun _ _ => ?_)
                refine z_eqs (OW ct A s (poH (phH s h)) fl qv (tyT tx (upF (srF (ceV L xs ((2 * t) + 1)) 2) 100)) u78) _ _ (by rw [to_ph] <;> rfl) rfl rfl ?_
                have k2 : okW s (poH (phH s h)) fl qv (tyT tx (upF (srF (ceV L xs ((2 * t) + 1)) 2) 100)) u78 := (k1).st J.1.1 (okH_po (k1).2.1)
                refine z_iload Z dL_law_149 0 rfl ?_
                refine z_icmp_ne Z 191 dL_law_151 (by decide) (by omega) (by omega) (fun h151 => ?_) (fun h151 => ?_)
                · exfalso; first | contradiction | omega
                · refine z_aload_n Z dL_law_154 9 rfl ?_
                  refine z_callSw (rest := []) Z dL_law_155 (zc_L_told l D ct A s (poH (phH s h)) fl qv (tyT tx (upF (srF (ceV L xs ((2 * t) + 1)) 2) 100)) u78 hA k2) rfl (va_cwS 1 Z.1.2.2.2.2 gL_law_L_told rfl rfl rfl (by decide +kernel) ⟨Nat.le_of_ble_eq_true rfl, Nat.le_of_ble_eq_true rfl⟩) rfl (Nat.le_of_ble_eq_true rfl) ⟨Nat.le_of_ble_eq_true rfl, Nat.le_of_ble_eq_true rfl⟩ (fun _ => OW ct A s (poH (phH s h)) fl qv (tyT tx (upF (srF (ceV L xs ((2 * t) + 1)) 2) 100)) u78) (fun _ => [.long (tdF s)]) (fun _ => rfl) rfl (fun _ => rfl) (fun _ _ => ?_)
                  refine z_lload Z dL_law_158 5 rfl ?_
                  refine z_lcmp_eq Z dL_law_160 (rfl) ?_
                  refine z_if_ne Z 191 dL_law_161 (by decide) (by omega) (fun h161 => ?_) (fun h161 => ?_)
                  · exfalso; first | contradiction | omega
                  · refine z_aload_n Z dL_law_164 9 rfl ?_
                    refine z_iload Z dL_law_165 7 rfl ?_
                    refine z_iload Z dL_law_167 6 rfl ?_
                    refine z_callSw (rest := []) Z dL_law_169 (zc_L_act l D ct A s (poH (phH s h)) fl qv (tyT tx (upF (srF (ceV L xs ((2 * t) + 1)) 2) 100)) u78 (ceV L xs (2 * t)) (ceV L xs ((2 * t) + 1)) hA k2 J.2.1 J.2.2.1.1 (LJ_b0 J (by omega)).1) rfl (va_cwS 3 Z.1.2.2.2.2 gL_law_L_act rfl rfl rfl (by decide +kernel) ⟨Nat.le_of_ble_eq_true rfl, Nat.le_of_ble_eq_true rfl⟩) rfl (Nat.le_of_ble_eq_true rfl) ⟨Nat.le_of_ble_eq_true rfl, Nat.le_of_ble_eq_true rfl⟩ (fun u169 => OW ct A ((actF (qv 0) s (ceV L xs (2 * t)) (ceV L xs ((2 * t) + 1))).1) (phH s (poH (phH s h))) fl qv (tyT (tyT tx (upF (srF (ceV L xs ((2 * t) + 1)) 2) 100)) (upF (srF (ceV L xs ((2 * t) + 1)) 2) 100)) u169) (fun u169 => [zi ((actF (qv 0) s (ceV L xs (2 * t)) (ceV L xs ((2 * t) + 1))).2)]) (fun _ => rfl) rfl (fun _ => rfl) (fun u169 hu169 => ?_)
                    have k3 : okW ((actF (qv 0) s (ceV L xs (2 * t)) (ceV L xs ((2 * t) + 1))).1) (phH s (poH (phH s h))) fl qv (tyT (tyT tx (upF (srF (ceV L xs ((2 * t) + 1)) 2) 100)) (upF (srF (ceV L xs ((2 * t) + 1)) 2) 100)) u169 := ⟨hok9.1.1, okH_ph _ (k2).2.1, (k2).2.2.1, hu169, tyT_lt (k2).2.2.2.2 _⟩
                    refine z_iload Z dL_law_172 3 rfl ?_
                    refine z_icmp_ne Z 191 dL_law_174 (by decide) (by omega) (by omega) (fun h174 => ?_) (fun h174 => ?_)
                    · exfalso; first | contradiction | omega
                    · refine z_aload_n Z dL_law_177 9 rfl ?_
                      refine z_callSw (rest := []) Z dL_law_178 (zc_L_told l D ct A ((actF (qv 0) s (ceV L xs (2 * t)) (ceV L xs ((2 * t) + 1))).1) (phH s (poH (phH s h))) fl qv (tyT (tyT tx (upF (srF (ceV L xs ((2 * t) + 1)) 2) 100)) (upF (srF (ceV L xs ((2 * t) + 1)) 2) 100)) u169 hA k3) rfl (va_cwS 1 Z.1.2.2.2.2 gL_law_L_told rfl rfl rfl (by decide +kernel) ⟨Nat.le_of_ble_eq_true rfl, Nat.le_of_ble_eq_true rfl⟩) rfl (Nat.le_of_ble_eq_true rfl) ⟨Nat.le_of_ble_eq_true rfl, Nat.le_of_ble_eq_true rfl⟩ (fun _ => OW ct A ((actF (qv 0) s (ceV L xs (2 * t)) (ceV L xs ((2 * t) + 1))).1) (phH s (poH (phH s h))) fl qv (tyT (tyT tx (upF (srF (ceV L xs ((2 * t) + 1)) 2) 100)) (upF (srF (ceV L xs ((2 * t) + 1)) 2) 100)) u169) (fun _ => [.long (tdF ((actF (qv 0) s (ceV L xs (2 * t)) (ceV L xs ((2 * t) + 1))).1))]) (fun _ => rfl) rfl (fun _ => rfl) (fun _ _ => ?_)
                      refine z_lload Z dL_law_181 1 rfl ?_
                      refine z_lcmp_eq Z dL_law_183 (rfl) ?_
                      refine z_if_ne Z 191 dL_law_184 (by decide) (by omega) (fun h184 => ?_) (fun h184 => ?_)
                      · exfalso; first | contradiction | omega
                      · refine z_iconst (v := 1) Z dL_law_187 rfl ?_
                        refine z_goto Z 192 dL_law_188 (by decide) ?_
                        refine z_istore_n Z dL_law_192 [(2, zi 1), (12, zi ((((phH s h).2.1) - 1 : Nat) : Int)), (10, .long (tdF ((actF (qv 0) s (ceV L xs (2 * t)) (ceV L xs ((2 * t) + 1))).1))), (9, zi ((actF (qv 0) s (ceV L xs (2 * t)) (ceV L xs ((2 * t) + 1))).2)), (8, zi (((h.2.1) : Nat) : Int)), (6, .long (tdF s)), (5, .int (ceV L xs ((2 * t) + 1))), (4, .int (ceV L xs (2 * t))), (0, .ref b), (1, .ref (A.1 0)), (3, zi ((t : Nat) : Int))] (by decide) rfl ?_
                        refine z_lsub [8, 9, 0, 10, 7, 6] [(0, .ref b), (1, .ref (A.1 0)), (2, zi 1), (3, zi ((t : Nat) : Int)), (4, .int (ceV L xs (2 * t))), (5, .int (ceV L xs ((2 * t) + 1)))] rfl ?_
                        exact law_193 Z hA (show t < 60 by omega) (KK (by omega)) ((actF (qv 0) s (ceV L xs (2 * t)) (ceV L xs ((2 * t) + 1))).1) (phH s (poH (phH s h))) fl qv (tyT (tyT tx (upF (srF (ceV L xs ((2 * t) + 1)) 2) 100)) (upF (srF (ceV L xs ((2 * t) + 1)) 2) 100)) u169 ⟨k3, J.2.1, ⟨J.2.2.1.1, J.2.2.1.2.more⟩, hok9.1.2⟩
        · have hpk9 : (phH s h).2.1 = h.2.1 + 1 := hc_more (by omega)
          refine z_iload Z dL_law_99 1 rfl ?_
          refine z_iconst (v := 1) Z dL_law_101 rfl ?_
          refine z_iadd Z dL_law_102 ?_
          refine z_top (y := (((h.2.1) + 1 : Nat) : Int)) (by omega) ?_
          refine z_goto Z 108 dL_law_103 (by decide) ?_
          refine z_icmp_ne Z 115 dL_law_108 (by decide) (by omega) (by omega) (fun h108 => ?_) (fun h108 => ?_)
          · exfalso; first | contradiction | omega
          · refine z_iconst (v := 1) Z dL_law_111 rfl ?_
            refine z_goto Z 116 dL_law_112 (by decide) ?_
            refine z_istore_n Z dL_law_116 [(2, zi 1), (9, zi ((actF (qv 0) s (ceV L xs (2 * t)) (ceV L xs ((2 * t) + 1))).2)), (8, zi (((h.2.1) : Nat) : Int)), (6, .long (tdF s)), (5, .int (ceV L xs ((2 * t) + 1))), (4, .int (ceV L xs (2 * t))), (0, .ref b), (1, .ref (A.1 0)), (3, zi ((t : Nat) : Int))] (by decide) rfl ?_
            refine z_iload_n Z dL_law_117 0 rfl ?_
            refine z_if_eq Z 193 dL_law_118 (by decide) (by omega) (fun h118 => ?_) (fun h118 => ?_)
            · exfalso; first | contradiction | omega
            · refine z_iload Z dL_law_121 5 rfl ?_
              refine z_bipush (v := 8) Z dL_law_123 (by decide +kernel) ?_
              refine z_ishrX (n := 8) Z dL_law_125 ?_
              refine z_iconst (v := 3) Z dL_law_126 rfl ?_
              refine z_iandX (n := 3) Z dL_law_127 ?_
              have hb127 := anF_le (srF (ceV L xs (2 * t)) 8) (n := 3) (by omega)
              refine z_if_ne Z 193 dL_law_128 (by decide) (by omega) (fun h128 => ?_) (fun h128 => ?_)
              · refine z_lsub [6, 7, 0, 8, 5, 4] [(0, .ref b), (1, .ref (A.1 0)), (2, zi 1), (3, zi ((t : Nat) : Int)), (4, .int (ceV L xs (2 * t))), (5, .int (ceV L xs ((2 * t) + 1)))] rfl ?_
                exact law_193 Z hA (show t < 60 by omega) (KK (by omega)) ((actF (qv 0) s (ceV L xs (2 * t)) (ceV L xs ((2 * t) + 1))).1) (phH s h) fl qv (tyT tx (upF (srF (ceV L xs ((2 * t) + 1)) 2) 100)) u78 ⟨k1, J.2.1, ⟨J.2.2.1.1, J.2.2.1.2.more⟩, hok9.1.2⟩
              · refine z_aload_n Z dL_law_131 7 rfl ?_
                refine z_callSw (rest := []) Z dL_law_132 (zc_L_told l D ct A ((actF (qv 0) s (ceV L xs (2 * t)) (ceV L xs ((2 * t) + 1))).1) (phH s h) fl qv (tyT tx (upF (srF (ceV L xs ((2 * t) + 1)) 2) 100)) u78 hA k1) rfl (va_cwS 1 Z.1.2.2.2.2 gL_law_L_told rfl rfl rfl (by decide +kernel) ⟨Nat.le_of_ble_eq_true rfl, Nat.le_of_ble_eq_true rfl⟩) rfl (Nat.le_of_ble_eq_true rfl) ⟨Nat.le_of_ble_eq_true rfl, Nat.le_of_ble_eq_true rfl⟩ (fun _ => OW ct A ((actF (qv 0) s (ceV L xs (2 * t)) (ceV L xs ((2 * t) + 1))).1) (phH s h) fl qv (tyT tx (upF (srF (ceV L xs ((2 * t) + 1)) 2) 100)) u78) (fun _ => [.long (tdF ((actF (qv 0) s (ceV L xs (2 * t)) (ceV L xs ((2 * t) + 1))).1))]) (fun _ => rfl) rfl (fun _ => rfl) (fun _ _ => ?_)
                refine z_lstore Z dL_law_135 [(10, .long (tdF ((actF (qv 0) s (ceV L xs (2 * t)) (ceV L xs ((2 * t) + 1))).1))), (2, zi 1), (9, zi ((actF (qv 0) s (ceV L xs (2 * t)) (ceV L xs ((2 * t) + 1))).2)), (8, zi (((h.2.1) : Nat) : Int)), (6, .long (tdF s)), (5, .int (ceV L xs ((2 * t) + 1))), (4, .int (ceV L xs (2 * t))), (0, .ref b), (1, .ref (A.1 0)), (3, zi ((t : Nat) : Int))] (by decide) rfl ?_
                refine z_aload_n Z dL_law_137 8 rfl ?_
                refine z_callVw (rest := []) Z dL_law_138 5 0 _ _ rfl rfl rfl (zc_X6_savedStates l D ct (A.1 0) (A.1 1) (A.1 2) (A.1 3) (A.1 4) (A.1 5) (A.1 6) (A.1 7) (A.1 8) (A.1 9) (A.1 10) (A.1 11) (((actF (qv 0) s (ceV L xs (2 * t)) (ceV L xs ((2 * t) + 1))).1).1) (((actF (qv 0) s (ceV L xs (2 * t)) (ceV L xs ((2 * t) + 1))).1).2.1) (((actF (qv 0) s (ceV L xs (2 * t)) (ceV L xs ((2 * t) + 1))).1).2.2.1) (((actF (qv 0) s (ceV L xs (2 * t)) (ceV L xs ((2 * t) + 1))).1).2.2.2.1) (((actF (qv 0) s (ceV L xs (2 * t)) (ceV L xs ((2 * t) + 1))).1).2.2.2.2.1) (((actF (qv 0) s (ceV L xs (2 * t)) (ceV L xs ((2 * t) + 1))).1).2.2.2.2.2.1) (((actF (qv 0) s (ceV L xs (2 * t)) (ceV L xs ((2 * t) + 1))).1).2.2.2.2.2.2.1) (((actF (qv 0) s (ceV L xs (2 * t)) (ceV L xs ((2 * t) + 1))).1).2.2.2.2.2.2.2) (A.1 12) (A.1 13) ((phH s h).1) ((phH s h).2.1) (A.2.1) (A.2.2.2.1) ((phH s h).2.2) (A.2.2.1) (fl) (A.2.2.2.2) (qv) (tyT tx (upF (srF (ceV L xs ((2 * t) + 1)) 2) 100)) (u78) (k1.1.1.1.1) (k1.1.1.1.2.1) (k1.1.1.1.2.2.1) (k1.1.1.1.2.2.2.1) (k1.1.1.2) (k1.1.1.1.2.2.2.2) (k1.2.1.1) (k1.2.1.2) (hA.1) (hA.2) (k1.2.2.1) (k1.2.2.2.1) (k1.2.2.2.2)) rfl (cwV 0 Z.1.2.2.2.2 gL_law_X6_savedStates rfl rfl rfl (by decide +kernel) ⟨Nat.le_of_ble_eq_true rfl, Nat.le_of_ble_eq_true rfl⟩) rfl (Nat.le_of_ble_eq_true rfl) ⟨Nat.le_of_ble_eq_true rfl, Nat.le_of_ble_eq_true rfl⟩ (fun _ => OW ct A ((actF (qv 0) s (ceV L xs (2 * t)) (ceV L xs ((2 * t) + 1))).1) (phH s h) fl qv (tyT tx (upF (srF (ceV L xs ((2 * t) + 1)) 2) 100)) u78) (fun _ => [zi ((((phH s h).2.1) : Nat) : Int)]) (fun _ => rfl) rfl (fun _ => rfl) (fun _ _ => ?_)
                refine z_iconst (v := 1) Z dL_law_141 rfl ?_
                refine z_isub Z dL_law_142 ?_
                refine z_top (y := ((((phH s h).2.1) - 1 : Nat) : Int)) (by omega) ?_
                refine z_istore Z dL_law_143 [(12, zi ((((phH s h).2.1) - 1 : Nat) : Int)), (10, .long (tdF ((actF (qv 0) s (ceV L xs (2 * t)) (ceV L xs ((2 * t) + 1))).1))), (2, zi 1), (9, zi ((actF (qv 0) s (ceV L xs (2 * t)) (ceV L xs ((2 * t) + 1))).2)), (8, zi (((h.2.1) : Nat) : Int)), (6, .long (tdF s)), (5, .int (ceV L xs ((2 * t) + 1))), (4, .int (ceV L xs (2 * t))), (0, .ref b), (1, .ref (A.1 0)), (3, zi ((t : Nat) : Int))] (by decide) rfl ?_
                refine z_aload_n Z dL_law_145 9 rfl ?_
                refine z_callVw (rest := []) Z dL_law_146 5 0 _ _ rfl rfl rfl (zc_X6_undo l D ct (A.1 0) (A.1 1) (A.1 2) (A.1 3) (A.1 4) (A.1 5) (A.1 6) (A.1 7) (A.1 8) (A.1 9) (A.1 10) (A.1 11) (((actF (qv 0) s (ceV L xs (2 * t)) (ceV L xs ((2 * t) + 1))).1).1) (((actF (qv 0) s (ceV L xs (2 * t)) (ceV L xs ((2 * t) + 1))).1).2.1) (((actF (qv 0) s (ceV L xs (2 * t)) (ceV L xs ((2 * t) + 1))).1).2.2.1) (((actF (qv 0) s (ceV L xs (2 * t)) (ceV L xs ((2 * t) + 1))).1).2.2.2.1) (((actF (qv 0) s (ceV L xs (2 * t)) (ceV L xs ((2 * t) + 1))).1).2.2.2.2.1) (((actF (qv 0) s (ceV L xs (2 * t)) (ceV L xs ((2 * t) + 1))).1).2.2.2.2.2.1) (((actF (qv 0) s (ceV L xs (2 * t)) (ceV L xs ((2 * t) + 1))).1).2.2.2.2.2.2.1) (((actF (qv 0) s (ceV L xs (2 * t)) (ceV L xs ((2 * t) + 1))).1).2.2.2.2.2.2.2) (A.1 12) (A.1 13) ((phH s h).1) ((phH s h).2.1) (A.2.1) (A.2.2.2.1) ((phH s h).2.2) (A.2.2.1) (fl) (A.2.2.2.2) (qv) (tyT tx (upF (srF (ceV L xs ((2 * t) + 1)) 2) 100)) (u78) (k1.1.1.1.1) (k1.1.1.1.2.1) (k1.1.1.1.2.2.1) (k1.1.1.1.2.2.2.1) (k1.1.1.2) (k1.1.1.1.2.2.2.2) (k1.2.1.1) (k1.2.1.2) (hA.1) (hA.2) (k1.2.2.1) (k1.2.2.2.1) (k1.2.2.2.2) (hc_pos _ _)) rfl (cwV 0 Z.1.2.2.2.2 gL_law_X6_undo rfl rfl rfl (by decide +kernel) ⟨Nat.le_of_ble_eq_true rfl, Nat.le_of_ble_eq_true rfl⟩) rfl (Nat.le_of_ble_eq_true rfl) ⟨Nat.le_of_ble_eq_true rfl, Nat.le_of_ble_eq_true rfl⟩ (fun _ => OW ct A (toH (phH s h)) (poH (phH s h)) fl qv (tyT tx (upF (srF (ceV L xs ((2 * t) + 1)) 2) 100)) u78) (fun _ => [zi ((((phH s h).2.1) - 1 : Nat) : Int)]) (fun _ => rfl) rfl (fun _ => rfl) (fun _ _ => ?_)
                refine z_eqs (OW ct A s (poH (phH s h)) fl qv (tyT tx (upF (srF (ceV L xs ((2 * t) + 1)) 2) 100)) u78) _ _ (by rw [to_ph] <;> rfl) rfl rfl ?_
                have k4 : okW s (poH (phH s h)) fl qv (tyT tx (upF (srF (ceV L xs ((2 * t) + 1)) 2) 100)) u78 := (k1).st J.1.1 (okH_po (k1).2.1)
                refine z_iload Z dL_law_149 0 rfl ?_
                refine z_icmp_ne Z 191 dL_law_151 (by decide) (by omega) (by omega) (fun h151 => ?_) (fun h151 => ?_)
                · exfalso; first | contradiction | omega
                · refine z_aload_n Z dL_law_154 9 rfl ?_
                  refine z_callSw (rest := []) Z dL_law_155 (zc_L_told l D ct A s (poH (phH s h)) fl qv (tyT tx (upF (srF (ceV L xs ((2 * t) + 1)) 2) 100)) u78 hA k4) rfl (va_cwS 1 Z.1.2.2.2.2 gL_law_L_told rfl rfl rfl (by decide +kernel) ⟨Nat.le_of_ble_eq_true rfl, Nat.le_of_ble_eq_true rfl⟩) rfl (Nat.le_of_ble_eq_true rfl) ⟨Nat.le_of_ble_eq_true rfl, Nat.le_of_ble_eq_true rfl⟩ (fun _ => OW ct A s (poH (phH s h)) fl qv (tyT tx (upF (srF (ceV L xs ((2 * t) + 1)) 2) 100)) u78) (fun _ => [.long (tdF s)]) (fun _ => rfl) rfl (fun _ => rfl) (fun _ _ => ?_)
                  refine z_lload Z dL_law_158 5 rfl ?_
                  refine z_lcmp_eq Z dL_law_160 (rfl) ?_
                  refine z_if_ne Z 191 dL_law_161 (by decide) (by omega) (fun h161 => ?_) (fun h161 => ?_)
                  · exfalso; first | contradiction | omega
                  · refine z_aload_n Z dL_law_164 9 rfl ?_
                    refine z_iload Z dL_law_165 7 rfl ?_
                    refine z_iload Z dL_law_167 6 rfl ?_
                    refine z_callSw (rest := []) Z dL_law_169 (zc_L_act l D ct A s (poH (phH s h)) fl qv (tyT tx (upF (srF (ceV L xs ((2 * t) + 1)) 2) 100)) u78 (ceV L xs (2 * t)) (ceV L xs ((2 * t) + 1)) hA k4 J.2.1 J.2.2.1.1 (LJ_b0 J (by omega)).1) rfl (va_cwS 3 Z.1.2.2.2.2 gL_law_L_act rfl rfl rfl (by decide +kernel) ⟨Nat.le_of_ble_eq_true rfl, Nat.le_of_ble_eq_true rfl⟩) rfl (Nat.le_of_ble_eq_true rfl) ⟨Nat.le_of_ble_eq_true rfl, Nat.le_of_ble_eq_true rfl⟩ (fun u169 => OW ct A ((actF (qv 0) s (ceV L xs (2 * t)) (ceV L xs ((2 * t) + 1))).1) (phH s (poH (phH s h))) fl qv (tyT (tyT tx (upF (srF (ceV L xs ((2 * t) + 1)) 2) 100)) (upF (srF (ceV L xs ((2 * t) + 1)) 2) 100)) u169) (fun u169 => [zi ((actF (qv 0) s (ceV L xs (2 * t)) (ceV L xs ((2 * t) + 1))).2)]) (fun _ => rfl) rfl (fun _ => rfl) (fun u169 hu169 => ?_)
                    have k5 : okW ((actF (qv 0) s (ceV L xs (2 * t)) (ceV L xs ((2 * t) + 1))).1) (phH s (poH (phH s h))) fl qv (tyT (tyT tx (upF (srF (ceV L xs ((2 * t) + 1)) 2) 100)) (upF (srF (ceV L xs ((2 * t) + 1)) 2) 100)) u169 := ⟨hok9.1.1, okH_ph _ (k4).2.1, (k4).2.2.1, hu169, tyT_lt (k4).2.2.2.2 _⟩
                    refine z_iload Z dL_law_172 3 rfl ?_
                    refine z_icmp_ne Z 191 dL_law_174 (by decide) (by omega) (by omega) (fun h174 => ?_) (fun h174 => ?_)
                    · exfalso; first | contradiction | omega
                    · refine z_aload_n Z dL_law_177 9 rfl ?_
                      refine z_callSw (rest := []) Z dL_law_178 (zc_L_told l D ct A ((actF (qv 0) s (ceV L xs (2 * t)) (ceV L xs ((2 * t) + 1))).1) (phH s (poH (phH s h))) fl qv (tyT (tyT tx (upF (srF (ceV L xs ((2 * t) + 1)) 2) 100)) (upF (srF (ceV L xs ((2 * t) + 1)) 2) 100)) u169 hA k5) rfl (va_cwS 1 Z.1.2.2.2.2 gL_law_L_told rfl rfl rfl (by decide +kernel) ⟨Nat.le_of_ble_eq_true rfl, Nat.le_of_ble_eq_true rfl⟩) rfl (Nat.le_of_ble_eq_true rfl) ⟨Nat.le_of_ble_eq_true rfl, Nat.le_of_ble_eq_true rfl⟩ (fun _ => OW ct A ((actF (qv 0) s (ceV L xs (2 * t)) (ceV L xs ((2 * t) + 1))).1) (phH s (poH (phH s h))) fl qv (tyT (tyT tx (upF (srF (ceV L xs ((2 * t) + 1)) 2) 100)) (upF (srF (ceV L xs ((2 * t) + 1)) 2) 100)) u169) (fun _ => [.long (tdF ((actF (qv 0) s (ceV L xs (2 * t)) (ceV L xs ((2 * t) + 1))).1))]) (fun _ => rfl) rfl (fun _ => rfl) (fun _ _ => ?_)
                      refine z_lload Z dL_law_181 1 rfl ?_
                      refine z_lcmp_eq Z dL_law_183 (rfl) ?_
                      refine z_if_ne Z 191 dL_law_184 (by decide) (by omega) (fun h184 => ?_) (fun h184 => ?_)
                      · exfalso; first | contradiction | omega
                      · refine z_iconst (v := 1) Z dL_law_187 rfl ?_
                        refine z_goto Z 192 dL_law_188 (by decide) ?_
                        refine z_istore_n Z dL_law_192 [(2, zi 1), (12, zi ((((phH s h).2.1) - 1 : Nat) : Int)), (10, .long (tdF ((actF (qv 0) s (ceV L xs (2 * t)) (ceV L xs ((2 * t) + 1))).1))), (9, zi ((actF (qv 0) s (ceV L xs (2 * t)) (ceV L xs ((2 * t) + 1))).2)), (8, zi (((h.2.1) : Nat) : Int)), (6, .long (tdF s)), (5, .int (ceV L xs ((2 * t) + 1))), (4, .int (ceV L xs (2 * t))), (0, .ref b), (1, .ref (A.1 0)), (3, zi ((t : Nat) : Int))] (by decide) rfl ?_
                        refine z_lsub [8, 9, 0, 10, 7, 6] [(0, .ref b), (1, .ref (A.1 0)), (2, zi 1), (3, zi ((t : Nat) : Int)), (4, .int (ceV L xs (2 * t))), (5, .int (ceV L xs ((2 * t) + 1)))] rfl ?_
                        exact law_193 Z hA (show t < 60 by omega) (KK (by omega)) ((actF (qv 0) s (ceV L xs (2 * t)) (ceV L xs ((2 * t) + 1))).1) (phH s (poH (phH s h))) fl qv (tyT (tyT tx (upF (srF (ceV L xs ((2 * t) + 1)) 2) 100)) (upF (srF (ceV L xs ((2 * t) + 1)) 2) 100)) u169 ⟨k5, J.2.1, ⟨J.2.2.1.1, J.2.2.1.2.more⟩, hok9.1.2⟩
set_option maxHeartbeats 8000000 in
set_option maxRecDepth 100000 in
theorem law_loop (Z : zC p s9 m args c cL_law RL wsL_law 13 D ct A9) (hA : okA A) (hX : va_X b L xs s9 s9.heap) (hbl : b < s9.heap.size) (hbA : ¬ A9 b) (hL : L ≤ 260) (hend : ∀ (ws : va_W) (lv : List (Nat × Value)), zW p l e room_1 s9 m args below meth c D A9 13 Q 73 1527 ws lv 283 [zi 1]) : ∀ (N t : Nat) (s : StV) (h : HsV) (fl : Nat → Int) (qv : Nat → StV) (tx : Nat → Nat) (len : Nat), 61 - t < N → t ≤ 60 → LJ t s h fl qv tx len → zW p l e room_1 s9 m args below meth c D A9 13 Q 73 1527 (OW ct A s h fl qv tx len) [(0, .ref b), (1, .ref (A.1 0)), (2, zi 1), (3, zi ((t : Nat) : Int))] 31 [] := by
  intro N
  induction N with
  | zero => intro t s h fl qv tx len hm; exact absurd hm (Nat.not_lt_zero _)
  | succ N ih =>
    intro t s h fl qv tx len hm ht J
    exact law_turn Z hA hX hbl hbA hL hend ht (fun ht2 s h fl qv tx len J => ih (t + 1) s h fl qv tx len (by omega) (by omega) J) s h fl qv tx len J
end
