/-! plain numbers for the tree and the state -/
def bgA (keys : Nat → Nat) (cnt h : Nat) : Nat → Bool := fun d => decide (4 < cbF keys cnt h d + 1)
def bgS (keys : Nat → Nat) (cnt h : Nat) : Nat → Bool := fun d => decide (4 < cbF keys cnt h d)
def smF (keys : Nat → Nat) (cnt h : Nat) : Nat → Bool := fun d => decide (cbF keys cnt h d ≤ 2)
theorem cbF_le (keys : Nat → Nat) (cnt h d : Nat) : cbF keys cnt h d ≤ cnt := by
  have := paF_le keys cnt (((lhF h d * 1000 + 999 : Nat) : Nat) : Int)
  unfold cbF
  omega
theorem dsF_stop {big : Nat → Bool} {k d : Nat} (h : big d = false) : dsF big k d = d := by
  cases k with
  | zero => rfl
  | succ k => unfold dsF; rw [h]; rfl
theorem dsF_next {big : Nat → Bool} {d : Nat} (hd : d < 6) (h : big d = true) : dsF big (6 - d) d = dsF big (6 - (d + 1)) (d + 1) := by
  obtain ⟨k, hk⟩ : ∃ k, 6 - d = k + 1 := ⟨5 - d, by omega⟩
  rw [hk, show 6 - (d + 1) = k by omega]
  show (if big d = true then dsF big k (d + 1) else d) = _
  rw [if_pos h]
theorem spF_stop {big : Nat → Bool} {h k d : Nat} {v : (Nat → Nat) × Nat} (hb : big d = false) : spF big h k d v = v := by
  cases k with
  | zero => rfl
  | succ k => unfold spF; rw [hb]; rfl
theorem spF_next {big : Nat → Bool} {h d : Nat} {f : Nat → Nat} {n : Nat} (hd : d < 6) (hb : big d = true) : spF big h (6 - d) d (f, n) = spF big h (6 - (d + 1)) (d + 1) (seF f (fhF h d) (lhF h d + 1) (d + 1), n + 1) := by
  obtain ⟨k, hk⟩ : ∃ k, 6 - d = k + 1 := ⟨5 - d, by omega⟩
  rw [hk, show 6 - (d + 1) = k by omega]
  show (if big d = true then spF big h k (d + 1) (seF f (fhF h d) (lhF h d + 1) (d + 1), n + 1) else (f, n)) = _
  rw [if_pos hb]
theorem mgF_stop1 {small : Nat → Bool} {h d : Nat} {f : Nat → Nat} {n : Nat} (hd : 0 < d) (hb : f (sbF h d) ≠ d) : mgF small h d (f, n) = (f, n) := by
  obtain ⟨k, rfl⟩ : ∃ k, d = k + 1 := ⟨d - 1, by omega⟩
  show (if f (sbF h (k + 1)) = k + 1 ∧ small k = true then _ else (f, n)) = (f, n)
  rw [if_neg (fun z => hb z.1)]
theorem mgF_stop2 {small : Nat → Bool} {h d : Nat} {f : Nat → Nat} {n : Nat} (hd : 0 < d) (hb : small (d - 1) = false) : mgF small h d (f, n) = (f, n) := by
  obtain ⟨k, rfl⟩ : ∃ k, d = k + 1 := ⟨d - 1, by omega⟩
  show (if f (sbF h (k + 1)) = k + 1 ∧ small k = true then _ else (f, n)) = (f, n)
  have hb : small k = false := hb
  rw [if_neg (fun z => by rw [hb] at z; cases z.2)]
theorem mgF_next {small : Nat → Bool} {h d : Nat} {f : Nat → Nat} {n : Nat} (hd : 0 < d) (h1 : f (sbF h d) = d) (hb : small (d - 1) = true) : mgF small h d (f, n) = mgF small h (d - 1) (seF f (fhF h (d - 1)) (lhF h (d - 1) + 1) (d - 1), n + 1) := by
  obtain ⟨k, rfl⟩ : ∃ k, d = k + 1 := ⟨d - 1, by omega⟩
  show (if f (sbF h (k + 1)) = k + 1 ∧ small k = true then mgF small h k (seF f (fhF h k) (lhF h k + 1) k, n + 1) else (f, n)) = _
  have hb : small k = true := hb
  rw [if_pos ⟨h1, hb⟩]
  rfl
theorem seF_lt {f : Nat → Nat} {a i v n b : Nat} (h : ∀ j, j < n → f j < b) (hv : v < b) : ∀ j, j < n → seF f a i v j < b := by
  intro j hj
  unfold seF
  split
  · exact hv
  · exact h j hj
theorem inF_lt {f : Nat → Nat} {p n x b : Nat} (h : ∀ j, j < 40 → f j < b) (hn : n < 40) (hx : x < b) : ∀ j, j < 40 → inF f p n x j < b := by
  intro j hj
  unfold inF zU shR
  split
  · exact hx
  · split
    · exact h _ (by omega)
    · exact h j hj
theorem shL_lt {f : Nat → Nat} {p n b : Nat} (h : ∀ j, j < 40 → f j < b) (hn : n ≤ 40) : ∀ j, j < 40 → shL f p (n - 1) j < b := by
  intro j hj
  unfold shL
  split
  · exact h _ (by omega)
  · exact h j hj
theorem foF_rg (p : Nat → Bool) (n : Nat) : -1 ≤ foF p n ∧ foF p n ≤ (n : Int) := by
  have := fiF_le p n
  unfold foF
  split <;> omega
def orF (pos : Nat → Int) : Nat → Nat
  | 0 => 0
  | n + 1 => orF pos n + if pos n ≠ -2 then 1 else 0
theorem orF_le (pos : Nat → Int) : ∀ n, orF pos n ≤ n
  | 0 => Nat.le_refl 0
  | n + 1 => by
    have := orF_le pos n
    unfold orF
    split <;> omega
/-- the end of the leaf of the entry at a place -/
def elF (keys dep : Nat → Nat) (cnt k : Nat) : Nat := paF keys cnt (((lhF (keys k / 1000) (dep (keys k / 1000)) * 1000 + 999 : Nat) : Nat) : Int)
/-- an entry made -/
def mkK (keys : Nat → Nat) (cnt nm ids : Nat) : Nat → Nat := inF keys (paF keys cnt ((hsF nm * 1000 + ids : Nat) : Int)) cnt (hsF nm * 1000 + ids)
def mkN (keys names : Nat → Nat) (cnt nm ids : Nat) : Nat → Nat := inF names (paF keys cnt ((hsF nm * 1000 + ids : Nat) : Int)) cnt nm
def mkT (keys dep : Nat → Nat) (cnt sc nm ids : Nat) : (Nat → Nat) × Nat := spF (bgS (mkK keys cnt nm ids) (cnt + 1) (hsF nm)) (hsF nm) (6 - dep (hsF nm)) (dep (hsF nm)) (dep, sc)
/-- an entry taken out -/
def rmT (keys dep : Nat → Nat) (cnt mg k : Nat) : (Nat → Nat) × Nat := mgF (smF (shL keys k (cnt - 1)) (cnt - 1) (keys k / 1000)) (keys k / 1000) (dep (keys k / 1000)) (dep, mg)
theorem zin_X5_leafCount_X5 : ∀ w ∈ wsX50, w ∈ wsX5_leafCount := by decide +kernel
theorem zlk_X5_leafCount_9 : Cond.fieldLink RX5 9 "HashedDirectory$Tree" "depths" "[I" ∈ wsX5_leafCount := by decide +kernel
set_option maxHeartbeats 4000000 in
set_option maxRecDepth 100000 in
theorem zc_X5_leafCount (l : Launch) (D : va_G) (ct : zCT) (h0 : Nat) (aD : Nat) (dep : Nat → Nat) (sc : Nat) (mg : Nat) (hdp : ∀ j, j < 64 → dep j < 7) : zMet l yX5_leafCount wsX5_leafCount ({ frames := 1, cells := 0, slots := 0, locals := 21 } : Room) D ct [.ref h0] [zO h0 4 [.ref aD, zi ((sc : Nat) : Int), zi ((mg : Nat) : Int)], zAI ct aD 64 (zN dep)] (fun _ : Unit => True) (fun _ => some (zi (((lcF dep 64 : Nat) : Int)))) (fun _ => [zO h0 4 [.ref aD, zi ((sc : Nat) : Int), zi ((mg : Nat) : Int)], zAI ct aD 64 (zN dep)]) 0 0 := by
  refine zMet_i (cc := cX5_leafCount) (maxL := 3) (r := fun _ => ((lcF dep 64 : Nat) : Int)) (by decide) rfl (Nat.le_of_ble_eq_true rfl) ?_
  intro p e s m below meth c A Q Z hnm hR
  refine z_eqs _ [(0, .ref h0)] _ rfl rfl rfl ?_
  refine z_iconst (v := 0) Z dX5_leafCount_0 rfl ?_
  refine z_istore_n Z dX5_leafCount_1 [(1, zi 0), (0, .ref h0)] (by decide) rfl ?_
  refine z_iconst (v := 0) Z dX5_leafCount_2 rfl ?_
  refine z_istore_n Z dX5_leafCount_3 [(2, zi 0), (1, zi 0), (0, .ref h0)] (by decide) rfl ?_
  refine z_lsub [2, 1, 0] [(0, .ref h0), (1, zi 0), (2, zi 0)] rfl ?_
  have LOOP4 : ∀ (N0 : Nat) (i : Nat) (x1 : Int) (x2 : Int), 65 - i < N0 → x1 = ((lcF dep i : Nat) : Int) → x2 = ((i : Nat) : Int) → (i ≤ 64) → zW p l e ({ frames := 1, cells := 0, slots := 0, locals := 21 } : Room) s m ([.ref h0] : List Value).toArray below meth c D A 3 Q 0 0 [zO h0 4 [.ref aD, zi ((sc : Nat) : Int), zi ((mg : Nat) : Int)], zAI ct aD 64 (zN dep)] [(0, .ref h0), (1, zi x1), (2, zi x2)] 4 [] := by
    intro N0
    induction N0 with
    | zero => intro i x1 x2 hm0; exact absurd hm0 (Nat.not_lt_zero _)
    | succ N0 ih0 =>
      intro i x1 x2 hm0 ex1 ex2 hi
      subst ex1
      subst ex2
      have hl9 := lcF_le dep i
      refine z_iload_n Z dX5_leafCount_4 2 rfl ?_
      refine z_bipush (v := 64) Z dX5_leafCount_5 (by decide +kernel) ?_
      refine z_icmp_ge Z 33 dX5_leafCount_7 (by decide) (by omega) (by omega) (fun h7 => ?_) (fun h7 => ?_)
      · refine z_iload_n Z dX5_leafCount_33 1 rfl ?_
        refine z_eqs [zO h0 4 [.ref aD, zi ((sc : Nat) : Int), zi ((mg : Nat) : Int)], zAI ct aD 64 (zN dep)] _ [zi ((lcF dep 64 : Nat) : Int)] (rfl) rfl (congrArg (fun z => [zi z]) (by rw [show i = 64 from by omega])) ?_
        exact hR _ _ () trivial dX5_leafCount_34
      · refine z_iload_n Z dX5_leafCount_10 2 rfl ?_
        refine z_aload_n Z dX5_leafCount_11 0 rfl ?_
        refine z_get Z dX5_leafCount_12 zin_X5_leafCount_X5 0 0 rfl rfl (by decide) zlk_X5_leafCount_9 rfl ?_
        refine z_iload_n Z dX5_leafCount_15 2 rfl ?_
        refine z_ialdN Z dX5_leafCount_16 1 (i) rfl (rfl) ⟨by omega, by omega⟩ ?_
        have he1 := hdp (i) (by omega)
        refine z_callSu (rest := []) Z dX5_leafCount_17 (zc_X5_firstHash l D ct (i) (dep i) (by first | assumption | omega) (by first | assumption | omega)) (va_cwS 2 Z.1.2.2.2.2 gX5_leafCount_X5_firstHash rfl rfl rfl (by decide +kernel) ⟨Nat.le_of_ble_eq_true rfl, Nat.le_of_ble_eq_true rfl⟩) rfl (Nat.le_of_ble_eq_true rfl) ⟨Nat.le_of_ble_eq_true rfl, Nat.le_of_ble_eq_true rfl⟩ [false, false] [zO h0 4 [.ref aD, zi ((sc : Nat) : Int), zi ((mg : Nat) : Int)], zAI ct aD 64 (zN dep)] [zi ((fhF i (dep i) : Nat) : Int)] rfl rfl rfl rfl ?_
        have hf9 := fh_le (h := i) (d := dep i) (by omega) (by omega)
        refine z_iload_n Z dX5_leafCount_20 2 rfl ?_
        refine z_icmp_ne Z 27 dX5_leafCount_21 (by decide) (by omega) (by omega) (fun h21 => ?_) (fun h21 => ?_)
        · refine z_iinc (v := ((i + 1 : Nat) : Int)) Z dX5_leafCount_27 2 [(2, zi ((i + 1 : Nat) : Int)), (0, .ref h0), (1, zi ((lcF dep i : Nat) : Int))] rfl (by omega) (by decide) rfl ?_
          refine z_goto Z 4 dX5_leafCount_30 (by decide) ?_
          refine z_lsub [1, 2, 0] [(0, .ref h0), (1, zi ((lcF dep i : Nat) : Int)), (2, zi ((i + 1 : Nat) : Int))] rfl ?_
          exact ih0 (i + 1) _ _ (by omega) (by rw [show lcF dep (i + 1) = lcF dep i + (if fhF i (dep i) = i then 1 else 0) from rfl]; split <;> omega) (by first | rfl | omega)  (by first | assumption | omega)
        · refine z_iinc (v := (((lcF dep i) + 1 : Nat) : Int)) Z dX5_leafCount_24 1 [(1, zi (((lcF dep i) + 1 : Nat) : Int)), (0, .ref h0), (2, zi ((i : Nat) : Int))] rfl (by omega) (by decide) rfl ?_
          refine z_iinc (v := ((i + 1 : Nat) : Int)) Z dX5_leafCount_27 2 [(2, zi ((i + 1 : Nat) : Int)), (1, zi (((lcF dep i) + 1 : Nat) : Int)), (0, .ref h0)] rfl (by omega) (by decide) rfl ?_
          refine z_goto Z 4 dX5_leafCount_30 (by decide) ?_
          refine z_lsub [2, 1, 0] [(0, .ref h0), (1, zi (((lcF dep i) + 1 : Nat) : Int)), (2, zi ((i + 1 : Nat) : Int))] rfl ?_
          exact ih0 (i + 1) _ _ (by omega) (by rw [show lcF dep (i + 1) = lcF dep i + (if fhF i (dep i) = i then 1 else 0) from rfl]; split <;> omega) (by first | rfl | omega)  (by first | assumption | omega)
  exact LOOP4 (65 - 0 + 1) 0 _ _ (Nat.lt_succ_self _) (rfl) (by first | rfl | omega)  (by first | assumption | omega)
theorem zin_X5_setDepth_X5 : ∀ w ∈ wsX50, w ∈ wsX5_setDepth := by decide +kernel
theorem zlk_X5_setDepth_9 : Cond.fieldLink RX5 9 "HashedDirectory$Tree" "depths" "[I" ∈ wsX5_setDepth := by decide +kernel
set_option maxHeartbeats 4000000 in
set_option maxRecDepth 100000 in
theorem zc_X5_setDepth (l : Launch) (D : va_G) (ct : zCT) (h0 : Nat) (aD : Nat) (dep : Nat → Nat) (sc : Nat) (mg : Nat) (h : Nat) (nd : Nat) (v : Nat) (hdp : ∀ j, j < 64 → dep j < 7) (hh : h < 64) (hd : nd < 7) (hv : v < 7) : zMet l yX5_setDepth wsX5_setDepth ({ frames := 1, cells := 0, slots := 0, locals := 21 } : Room) D ct [.ref h0, zi ((h : Nat) : Int), zi ((nd : Nat) : Int), zi ((v : Nat) : Int)] [zO h0 4 [.ref aD, zi ((sc : Nat) : Int), zi ((mg : Nat) : Int)], zAI ct aD 64 (zN dep)] (fun _ : Unit => True) (fun _ => none) (fun _ => [zO h0 4 [.ref aD, zi ((sc : Nat) : Int), zi ((mg : Nat) : Int)], zAI ct aD 64 (zN (seF dep (fhF h nd) (lhF h nd + 1) v))]) 0 0 := by
  refine zMet_v (cc := cX5_setDepth) (maxL := 6) (by decide) rfl (Nat.le_of_ble_eq_true rfl) ?_
  intro p e s m below meth c A Q Z hnm hR
  refine z_eqs _ [(0, .ref h0), (1, zi ((h : Nat) : Int)), (2, zi ((nd : Nat) : Int)), (3, zi ((v : Nat) : Int))] _ rfl rfl rfl ?_
  have hf9 := fh_le hh hd
  refine z_iload_n Z dX5_setDepth_0 1 rfl ?_
  refine z_iload_n Z dX5_setDepth_1 2 rfl ?_
  refine z_callSu (rest := []) Z dX5_setDepth_2 (zc_X5_lastHash l D ct (h) (nd) (by first | assumption | omega) (by first | assumption | omega)) (va_cwS 2 Z.1.2.2.2.2 gX5_setDepth_X5_lastHash rfl rfl rfl (by decide +kernel) ⟨Nat.le_of_ble_eq_true rfl, Nat.le_of_ble_eq_true rfl⟩) rfl (Nat.le_of_ble_eq_true rfl) ⟨Nat.le_of_ble_eq_true rfl, Nat.le_of_ble_eq_true rfl⟩ [false, false] [zO h0 4 [.ref aD, zi ((sc : Nat) : Int), zi ((mg : Nat) : Int)], zAI ct aD 64 (zN dep)] [zi ((lhF h nd : Nat) : Int)] rfl rfl rfl rfl ?_
  refine z_istore Z dX5_setDepth_5 [(4, zi ((lhF h nd : Nat) : Int)), (0, .ref h0), (1, zi ((h : Nat) : Int)), (2, zi ((nd : Nat) : Int)), (3, zi ((v : Nat) : Int))] (by decide) rfl ?_
  refine z_iload_n Z dX5_setDepth_7 2 rfl ?_
  refine z_iload_n Z dX5_setDepth_8 3 rfl ?_
  refine z_callSu (rest := []) Z dX5_setDepth_9 (zc_X5_firstHash l D ct (h) (nd) (by first | assumption | omega) (by first | assumption | omega)) (va_cwS 2 Z.1.2.2.2.2 gX5_setDepth_X5_firstHash rfl rfl rfl (by decide +kernel) ⟨Nat.le_of_ble_eq_true rfl, Nat.le_of_ble_eq_true rfl⟩) rfl (Nat.le_of_ble_eq_true rfl) ⟨Nat.le_of_ble_eq_true rfl, Nat.le_of_ble_eq_true rfl⟩ [false, false] [zO h0 4 [.ref aD, zi ((sc : Nat) : Int), zi ((mg : Nat) : Int)], zAI ct aD 64 (zN dep)] [zi ((fhF h nd : Nat) : Int)] rfl rfl rfl rfl ?_
  refine z_istore Z dX5_setDepth_12 [(5, zi ((fhF h nd : Nat) : Int)), (4, zi ((lhF h nd : Nat) : Int)), (0, .ref h0), (1, zi ((h : Nat) : Int)), (2, zi ((nd : Nat) : Int)), (3, zi ((v : Nat) : Int))] (by decide) rfl ?_
  refine z_lsub [2, 3, 4, 5, 1, 0] [(0, .ref h0), (1, zi ((h : Nat) : Int)), (2, zi ((nd : Nat) : Int)), (3, zi ((v : Nat) : Int)), (4, zi ((lhF h nd : Nat) : Int)), (5, zi ((fhF h nd : Nat) : Int))] rfl ?_
  have LOOP14 : ∀ (N0 : Nat) (i : Nat) (x5 : Int) (y1g : Nat → Nat), 66 - i < N0 → x5 = ((i : Nat) : Int) → y1g = seF dep (fhF h nd) i v → (fhF h nd ≤ i) → (i ≤ lhF h nd + 1) → zW p l e ({ frames := 1, cells := 0, slots := 0, locals := 21 } : Room) s m ([.ref h0, zi ((h : Nat) : Int), zi ((nd : Nat) : Int), zi ((v : Nat) : Int)] : List Value).toArray below meth c D A 6 Q 0 0 [zO h0 4 [.ref aD, zi ((sc : Nat) : Int), zi ((mg : Nat) : Int)], zAI ct aD 64 (zN y1g)] [(0, .ref h0), (1, zi ((h : Nat) : Int)), (2, zi ((nd : Nat) : Int)), (3, zi ((v : Nat) : Int)), (4, zi ((lhF h nd : Nat) : Int)), (5, zi x5)] 14 [] := by
    intro N0
    induction N0 with
    | zero => intro i x5 y1g hm0; exact absurd hm0 (Nat.not_lt_zero _)
    | succ N0 ih0 =>
      intro i x5 y1g hm0 ex5 ey1g hi hi2
      subst ex5
      subst ey1g
      refine z_iload Z dX5_setDepth_14 5 rfl ?_
      refine z_iload Z dX5_setDepth_16 4 rfl ?_
      refine z_icmp_gt Z 35 dX5_setDepth_18 (by decide) (by omega) (by omega) (fun h18 => ?_) (fun h18 => ?_)
      · refine z_eqs [zO h0 4 [.ref aD, zi ((sc : Nat) : Int), zi ((mg : Nat) : Int)], zAI ct aD 64 (zN (seF dep (fhF h nd) (lhF h nd + 1) v))] _ [] (by rw [show i = lhF h nd + 1 from by omega]) rfl (rfl) ?_
        exact hR _ _ () trivial dX5_setDepth_35
      · refine z_aload_n Z dX5_setDepth_21 0 rfl ?_
        refine z_get Z dX5_setDepth_22 zin_X5_setDepth_X5 0 0 rfl rfl (by decide) zlk_X5_setDepth_9 rfl ?_
        refine z_iload Z dX5_setDepth_25 5 rfl ?_
        refine z_iload_n Z dX5_setDepth_27 3 rfl ?_
        refine z_iastN Z dX5_setDepth_28 1 (i) [zO h0 4 [.ref aD, zi ((sc : Nat) : Int), zi ((mg : Nat) : Int)], zAI ct aD 64 (zN (zU (seF dep (fhF h nd) i v) i v))] rfl (rfl) ⟨by omega, by omega⟩ rfl ?_
        refine z_iinc (v := ((i + 1 : Nat) : Int)) Z dX5_setDepth_29 5 [(5, zi ((i + 1 : Nat) : Int)), (0, .ref h0), (1, zi ((h : Nat) : Int)), (2, zi ((nd : Nat) : Int)), (3, zi ((v : Nat) : Int)), (4, zi ((lhF h nd : Nat) : Int))] rfl (by omega) (by decide) rfl ?_
        refine z_goto Z 14 dX5_setDepth_32 (by decide) ?_
        refine z_lsub [1, 2, 3, 4, 5, 0] [(0, .ref h0), (1, zi ((h : Nat) : Int)), (2, zi ((nd : Nat) : Int)), (3, zi ((v : Nat) : Int)), (4, zi ((lhF h nd : Nat) : Int)), (5, zi ((i + 1 : Nat) : Int))] rfl ?_
        exact ih0 (i + 1) _ _ (by omega) (by first | rfl | omega) (seF_s dep v hi) (by first | assumption | omega) (by first | assumption | omega)
  exact LOOP14 (66 - (fhF h nd) + 1) (fhF h nd) _ _ (Nat.lt_succ_self _) (by first | rfl | omega) (seF_0 dep (fhF h nd) v) (by first | assumption | omega) (by first | assumption | omega)
theorem zin_X5_leafCountIfAdded_X5 : ∀ w ∈ wsX50, w ∈ wsX5_leafCountIfAdded := by decide +kernel
theorem zlk_X5_leafCountIfAdded_9 : Cond.fieldLink RX5 9 "HashedDirectory$Tree" "depths" "[I" ∈ wsX5_leafCountIfAdded := by decide +kernel
set_option maxHeartbeats 4000000 in
set_option maxRecDepth 100000 in
theorem zc_X5_leafCountIfAdded (l : Launch) (D : va_G) (ct : zCT) (h0 : Nat) (aD : Nat) (dep : Nat → Nat) (sc : Nat) (mg : Nat) (e0 : Nat) (aK : Nat) (aN : Nat) (keys : Nat → Nat) (names : Nat → Nat) (cnt : Nat) (h : Nat) (hc : cnt ≤ 40) (hk : ∀ j, j < 40 → keys j < 64000) (hdp : ∀ j, j < 64 → dep j < 7) (hh : h < 64) : zMet l yX5_leafCountIfAdded wsX5_leafCountIfAdded ({ frames := 2, cells := 0, slots := 0, locals := 46 } : Room) D ct [.ref h0, zi ((h : Nat) : Int), .ref e0] [zO e0 0 [.ref aK, .ref aN, zi ((cnt : Nat) : Int)], zAI ct aK 40 (zN keys), zAI ct aN 40 (zN names), zO h0 4 [.ref aD, zi ((sc : Nat) : Int), zi ((mg : Nat) : Int)], zAI ct aD 64 (zN dep)] (fun _ : Unit => True) (fun _ => some (zi (((lcF dep 64 + dsF (bgA keys cnt h) (6 - dep h) (dep h) - dep h : Nat) : Int)))) (fun _ => [zO e0 0 [.ref aK, .ref aN, zi ((cnt : Nat) : Int)], zAI ct aK 40 (zN keys), zAI ct aN 40 (zN names), zO h0 4 [.ref aD, zi ((sc : Nat) : Int), zi ((mg : Nat) : Int)], zAI ct aD 64 (zN dep)]) 0 0 := by
  refine zMet_i (cc := cX5_leafCountIfAdded) (maxL := 4) (r := fun _ => ((lcF dep 64 + dsF (bgA keys cnt h) (6 - dep h) (dep h) - dep h : Nat) : Int)) (by decide) rfl (Nat.le_of_ble_eq_true rfl) ?_
  intro p e s m below meth c A Q Z hnm hR
  refine z_eqs _ [(0, .ref h0), (1, zi ((h : Nat) : Int)), (2, .ref e0)] _ rfl rfl rfl ?_
  refine z_aload_n Z dX5_leafCountIfAdded_0 0 rfl ?_
  refine z_get Z dX5_leafCountIfAdded_1 zin_X5_leafCountIfAdded_X5 3 0 rfl rfl (by decide) zlk_X5_leafCountIfAdded_9 rfl ?_
  refine z_iload_n Z dX5_leafCountIfAdded_4 1 rfl ?_
  refine z_ialdN Z dX5_leafCountIfAdded_5 4 (h) rfl (rfl) ⟨by omega, by omega⟩ ?_
  have he1 := hdp (h) (by omega)
  refine z_istore_n Z dX5_leafCountIfAdded_6 [(3, zi ((dep h : Nat) : Int)), (0, .ref h0), (1, zi ((h : Nat) : Int)), (2, .ref e0)] (by decide) rfl ?_
  refine z_lsub [1, 2, 3, 0] [(0, .ref h0), (1, zi ((h : Nat) : Int)), (2, .ref e0), (3, zi ((dep h : Nat) : Int))] rfl ?_
  have LOOP7 : ∀ (N0 : Nat) (d : Nat) (x3 : Int), 7 - d < N0 → x3 = ((d : Nat) : Int) → (d ≤ 6) → (dep h ≤ d) → (dsF (bgA keys cnt h) (6 - d) d = dsF (bgA keys cnt h) (6 - dep h) (dep h)) → zW p l e ({ frames := 2, cells := 0, slots := 0, locals := 46 } : Room) s m ([.ref h0, zi ((h : Nat) : Int), .ref e0] : List Value).toArray below meth c D A 4 Q 0 0 [zO e0 0 [.ref aK, .ref aN, zi ((cnt : Nat) : Int)], zAI ct aK 40 (zN keys), zAI ct aN 40 (zN names), zO h0 4 [.ref aD, zi ((sc : Nat) : Int), zi ((mg : Nat) : Int)], zAI ct aD 64 (zN dep)] [(0, .ref h0), (1, zi ((h : Nat) : Int)), (2, .ref e0), (3, zi x3)] 7 [] := by
    intro N0
    induction N0 with
    | zero => intro d x3 hm0; exact absurd hm0 (Nat.not_lt_zero _)
    | succ N0 ih0 =>
      intro d x3 hm0 ex3 hi hi2 he
      subst ex3
      refine z_iload_n Z dX5_leafCountIfAdded_7 3 rfl ?_
      refine z_bipush (v := 6) Z dX5_leafCountIfAdded_8 (by decide +kernel) ?_
      refine z_icmp_ge Z 31 dX5_leafCountIfAdded_10 (by decide) (by omega) (by omega) (fun h10 => ?_) (fun h10 => ?_)
      · have hz9 : dsF (bgA keys cnt h) (6 - dep h) (dep h) = d := by rw [← he, show 6 - d = 0 from by omega]; rfl
        refine z_aload_n Z dX5_leafCountIfAdded_31 0 rfl ?_
        refine z_callVu (rest := []) Z dX5_leafCountIfAdded_32 4 3 _ _ rfl rfl rfl (zc_X5_leafCount l D ct (h0) (aD) (dep) (sc) (mg) (by first | assumption | omega)) (cwV 0 Z.1.2.2.2.2 gX5_leafCountIfAdded_X5_leafCount rfl rfl rfl (by decide +kernel) ⟨Nat.le_of_ble_eq_true rfl, Nat.le_of_ble_eq_true rfl⟩) rfl (Nat.le_of_ble_eq_true rfl) ⟨Nat.le_of_ble_eq_true rfl, Nat.le_of_ble_eq_true rfl⟩ [false, false, false, true, true] [zO e0 0 [.ref aK, .ref aN, zi ((cnt : Nat) : Int)], zAI ct aK 40 (zN keys), zAI ct aN 40 (zN names), zO h0 4 [.ref aD, zi ((sc : Nat) : Int), zi ((mg : Nat) : Int)], zAI ct aD 64 (zN dep)] [zi ((lcF dep 64 : Nat) : Int)] rfl rfl rfl rfl ?_
        have hl9 := lcF_le dep 64
        refine z_iload_n Z dX5_leafCountIfAdded_35 3 rfl ?_
        refine z_iadd Z dX5_leafCountIfAdded_36 ?_
        refine z_top (y := (((lcF dep 64) + d : Nat) : Int)) (by omega) ?_
        refine z_aload_n Z dX5_leafCountIfAdded_37 0 rfl ?_
        refine z_get Z dX5_leafCountIfAdded_38 zin_X5_leafCountIfAdded_X5 3 0 rfl rfl (by decide) zlk_X5_leafCountIfAdded_9 rfl ?_
        refine z_iload_n Z dX5_leafCountIfAdded_41 1 rfl ?_
        refine z_ialdN Z dX5_leafCountIfAdded_42 4 (h) rfl (rfl) ⟨by omega, by omega⟩ ?_
        have he2 := hdp (h) (by omega)
        refine z_isub Z dX5_leafCountIfAdded_43 ?_
        refine z_top (y := ((((lcF dep 64) + d) - (dep h) : Nat) : Int)) (by omega) ?_
        refine z_eqs [zO e0 0 [.ref aK, .ref aN, zi ((cnt : Nat) : Int)], zAI ct aK 40 (zN keys), zAI ct aN 40 (zN names), zO h0 4 [.ref aD, zi ((sc : Nat) : Int), zi ((mg : Nat) : Int)], zAI ct aD 64 (zN dep)] _ [zi ((lcF dep 64 + dsF (bgA keys cnt h) (6 - dep h) (dep h) - dep h : Nat) : Int)] (rfl) rfl (congrArg (fun z => [zi z]) (by rw [hz9])) ?_
        exact hR _ _ () trivial dX5_leafCountIfAdded_44
      · refine z_aload_n Z dX5_leafCountIfAdded_13 2 rfl ?_
        refine z_iload_n Z dX5_leafCountIfAdded_14 1 rfl ?_
        refine z_iload_n Z dX5_leafCountIfAdded_15 3 rfl ?_
        refine z_callVu (rest := []) Z dX5_leafCountIfAdded_16 0 0 _ _ rfl rfl rfl (zc_X0_countInBranch l D ct (e0) (aK) (aN) (keys) (names) (cnt) (h) (d) (by first | assumption | omega) (by first | assumption | omega) (by first | assumption | omega) (by first | assumption | omega)) (cwV 2 Z.1.2.2.2.2 gX5_leafCountIfAdded_X0_countInBranch rfl rfl rfl (by decide +kernel) ⟨Nat.le_of_ble_eq_true rfl, Nat.le_of_ble_eq_true rfl⟩) rfl (Nat.le_of_ble_eq_true rfl) ⟨Nat.le_of_ble_eq_true rfl, Nat.le_of_ble_eq_true rfl⟩ [true, true, true, false, false] [zO e0 0 [.ref aK, .ref aN, zi ((cnt : Nat) : Int)], zAI ct aK 40 (zN keys), zAI ct aN 40 (zN names), zO h0 4 [.ref aD, zi ((sc : Nat) : Int), zi ((mg : Nat) : Int)], zAI ct aD 64 (zN dep)] [zi ((cbF keys cnt h d : Nat) : Int)] rfl rfl rfl rfl ?_
        have hc3 := cbF_le keys cnt h (d)
        refine z_iconst (v := 1) Z dX5_leafCountIfAdded_19 rfl ?_
        refine z_iadd Z dX5_leafCountIfAdded_20 ?_
        refine z_top (y := (((cbF keys cnt h d) + 1 : Nat) : Int)) (by omega) ?_
        refine z_iconst (v := 4) Z dX5_leafCountIfAdded_21 rfl ?_
        refine z_icmp_le Z 31 dX5_leafCountIfAdded_22 (by decide) (by omega) (by omega) (fun h22 => ?_) (fun h22 => ?_)
        · have hz9 : dsF (bgA keys cnt h) (6 - dep h) (dep h) = d := by rw [← he]; exact dsF_stop (decide_eq_false (by omega))
          refine z_aload_n Z dX5_leafCountIfAdded_31 0 rfl ?_
          refine z_callVu (rest := []) Z dX5_leafCountIfAdded_32 4 3 _ _ rfl rfl rfl (zc_X5_leafCount l D ct (h0) (aD) (dep) (sc) (mg) (by first | assumption | omega)) (cwV 0 Z.1.2.2.2.2 gX5_leafCountIfAdded_X5_leafCount rfl rfl rfl (by decide +kernel) ⟨Nat.le_of_ble_eq_true rfl, Nat.le_of_ble_eq_true rfl⟩) rfl (Nat.le_of_ble_eq_true rfl) ⟨Nat.le_of_ble_eq_true rfl, Nat.le_of_ble_eq_true rfl⟩ [false, false, false, true, true] [zO e0 0 [.ref aK, .ref aN, zi ((cnt : Nat) : Int)], zAI ct aK 40 (zN keys), zAI ct aN 40 (zN names), zO h0 4 [.ref aD, zi ((sc : Nat) : Int), zi ((mg : Nat) : Int)], zAI ct aD 64 (zN dep)] [zi ((lcF dep 64 : Nat) : Int)] rfl rfl rfl rfl ?_
          have hl9 := lcF_le dep 64
          refine z_iload_n Z dX5_leafCountIfAdded_35 3 rfl ?_
          refine z_iadd Z dX5_leafCountIfAdded_36 ?_
          refine z_top (y := (((lcF dep 64) + d : Nat) : Int)) (by omega) ?_
          refine z_aload_n Z dX5_leafCountIfAdded_37 0 rfl ?_
          refine z_get Z dX5_leafCountIfAdded_38 zin_X5_leafCountIfAdded_X5 3 0 rfl rfl (by decide) zlk_X5_leafCountIfAdded_9 rfl ?_
          refine z_iload_n Z dX5_leafCountIfAdded_41 1 rfl ?_
          refine z_ialdN Z dX5_leafCountIfAdded_42 4 (h) rfl (rfl) ⟨by omega, by omega⟩ ?_
          have he4 := hdp (h) (by omega)
          refine z_isub Z dX5_leafCountIfAdded_43 ?_
          refine z_top (y := ((((lcF dep 64) + d) - (dep h) : Nat) : Int)) (by omega) ?_
          refine z_eqs [zO e0 0 [.ref aK, .ref aN, zi ((cnt : Nat) : Int)], zAI ct aK 40 (zN keys), zAI ct aN 40 (zN names), zO h0 4 [.ref aD, zi ((sc : Nat) : Int), zi ((mg : Nat) : Int)], zAI ct aD 64 (zN dep)] _ [zi ((lcF dep 64 + dsF (bgA keys cnt h) (6 - dep h) (dep h) - dep h : Nat) : Int)] (rfl) rfl (congrArg (fun z => [zi z]) (by rw [hz9])) ?_
          exact hR _ _ () trivial dX5_leafCountIfAdded_44
        · refine z_iinc (v := ((d + 1 : Nat) : Int)) Z dX5_leafCountIfAdded_25 3 [(3, zi ((d + 1 : Nat) : Int)), (0, .ref h0), (1, zi ((h : Nat) : Int)), (2, .ref e0)] rfl (by omega) (by decide) rfl ?_
          refine z_goto Z 7 dX5_leafCountIfAdded_28 (by decide) ?_
          refine z_lsub [1, 2, 3, 0] [(0, .ref h0), (1, zi ((h : Nat) : Int)), (2, .ref e0), (3, zi ((d + 1 : Nat) : Int))] rfl ?_
          exact ih0 (d + 1) _ (by omega) (by first | rfl | omega)  (by first | assumption | omega) (by first | assumption | omega) (by rw [← dsF_next (by omega) (decide_eq_true (by omega))]; exact he)
  exact LOOP7 (7 - (dep h) + 1) (dep h) _ (Nat.lt_succ_self _) (by first | rfl | omega)  (by first | assumption | omega) (by first | assumption | omega) (rfl)
theorem zin_X5_splitFrom_X5 : ∀ w ∈ wsX50, w ∈ wsX5_splitFrom := by decide +kernel
theorem zlk_X5_splitFrom_9 : Cond.fieldLink RX5 9 "HashedDirectory$Tree" "depths" "[I" ∈ wsX5_splitFrom := by decide +kernel
theorem zlk_X5_splitFrom_15 : Cond.fieldLink RX5 15 "HashedDirectory$Tree" "splitCount" "I" ∈ wsX5_splitFrom := by decide +kernel
set_option maxHeartbeats 4000000 in
set_option maxRecDepth 100000 in
theorem zc_X5_splitFrom (l : Launch) (D : va_G) (ct : zCT) (h0 : Nat) (aD : Nat) (dep : Nat → Nat) (sc : Nat) (mg : Nat) (e0 : Nat) (aK : Nat) (aN : Nat) (keys : Nat → Nat) (names : Nat → Nat) (cnt : Nat) (h : Nat) (hc : cnt ≤ 40) (hk : ∀ j, j < 40 → keys j < 64000) (hdp : ∀ j, j < 64 → dep j < 7) (hh : h < 64) : zMet l yX5_splitFrom wsX5_splitFrom ({ frames := 2, cells := 0, slots := 0, locals := 46 } : Room) D ct [.ref h0, zi ((h : Nat) : Int), .ref e0] [zO e0 0 [.ref aK, .ref aN, zi ((cnt : Nat) : Int)], zAI ct aK 40 (zN keys), zAI ct aN 40 (zN names), zO h0 4 [.ref aD, zi ((sc : Nat) : Int), zi ((mg : Nat) : Int)], zAI ct aD 64 (zN dep)] (fun _ : Unit => True) (fun _ => none) (fun _ => [zO e0 0 [.ref aK, .ref aN, zi ((cnt : Nat) : Int)], zAI ct aK 40 (zN keys), zAI ct aN 40 (zN names), zO h0 4 [.ref aD, zi (((spF (bgS keys cnt h) h (6 - dep h) (dep h) (dep, sc)).2 : Nat) : Int), zi ((mg : Nat) : Int)], zAI ct aD 64 (zN ((spF (bgS keys cnt h) h (6 - dep h) (dep h) (dep, sc)).1))]) 0 0 := by
  refine zMet_v (cc := cX5_splitFrom) (maxL := 4) (by decide) rfl (Nat.le_of_ble_eq_true rfl) ?_
  intro p e s m below meth c A Q Z hnm hR
  refine z_eqs _ [(0, .ref h0), (1, zi ((h : Nat) : Int)), (2, .ref e0)] _ rfl rfl rfl ?_
  refine z_aload_n Z dX5_splitFrom_0 0 rfl ?_
  refine z_get Z dX5_splitFrom_1 zin_X5_splitFrom_X5 3 0 rfl rfl (by decide) zlk_X5_splitFrom_9 rfl ?_
  refine z_iload_n Z dX5_splitFrom_4 1 rfl ?_
  refine z_ialdN Z dX5_splitFrom_5 4 (h) rfl (rfl) ⟨by omega, by omega⟩ ?_
  have he1 := hdp (h) (by omega)
  refine z_istore_n Z dX5_splitFrom_6 [(3, zi ((dep h : Nat) : Int)), (0, .ref h0), (1, zi ((h : Nat) : Int)), (2, .ref e0)] (by decide) rfl ?_
  refine z_lsub [1, 2, 3, 0] [(0, .ref h0), (1, zi ((h : Nat) : Int)), (2, .ref e0), (3, zi ((dep h : Nat) : Int))] rfl ?_
  have LOOP7 : ∀ (N0 : Nat) (d : Nat) (dp : Nat → Nat) (sk : Nat) (x3 : Int) (y3_1 : Int), 7 - d < N0 → x3 = ((d : Nat) : Int) → y3_1 = ((sk : Nat) : Int) → (d ≤ 6) → (∀ j, j < 64 → dp j < 7) → (spF (bgS keys cnt h) h (6 - d) d (dp, sk) = spF (bgS keys cnt h) h (6 - dep h) (dep h) (dep, sc)) → zW p l e ({ frames := 2, cells := 0, slots := 0, locals := 46 } : Room) s m ([.ref h0, zi ((h : Nat) : Int), .ref e0] : List Value).toArray below meth c D A 4 Q 0 0 [zO e0 0 [.ref aK, .ref aN, zi ((cnt : Nat) : Int)], zAI ct aK 40 (zN keys), zAI ct aN 40 (zN names), zO h0 4 [.ref aD, zi y3_1, zi ((mg : Nat) : Int)], zAI ct aD 64 (zN dp)] [(0, .ref h0), (1, zi ((h : Nat) : Int)), (2, .ref e0), (3, zi x3)] 7 [] := by
    intro N0
    induction N0 with
    | zero => intro d dp sk x3 y3_1 hm0; exact absurd hm0 (Nat.not_lt_zero _)
    | succ N0 ih0 =>
      intro d dp sk x3 y3_1 hm0 ex3 ey3_1 hi hq he
      subst ex3
      subst ey3_1
      refine z_iload_n Z dX5_splitFrom_7 3 rfl ?_
      refine z_bipush (v := 6) Z dX5_splitFrom_8 (by decide +kernel) ?_
      refine z_icmp_ge Z 49 dX5_splitFrom_10 (by decide) (by omega) (by omega) (fun h10 => ?_) (fun h10 => ?_)
      · have hz9 : spF (bgS keys cnt h) h (6 - dep h) (dep h) (dep, sc) = (dp, sk) := by rw [← he, show 6 - d = 0 from by omega]; rfl
        refine z_eqs [zO e0 0 [.ref aK, .ref aN, zi ((cnt : Nat) : Int)], zAI ct aK 40 (zN keys), zAI ct aN 40 (zN names), zO h0 4 [.ref aD, zi (((spF (bgS keys cnt h) h (6 - dep h) (dep h) (dep, sc)).2 : Nat) : Int), zi ((mg : Nat) : Int)], zAI ct aD 64 (zN ((spF (bgS keys cnt h) h (6 - dep h) (dep h) (dep, sc)).1))] _ [] (by rw [hz9]) rfl (rfl) ?_
        exact hR _ _ () trivial dX5_splitFrom_49
      · refine z_aload_n Z dX5_splitFrom_13 2 rfl ?_
        refine z_iload_n Z dX5_splitFrom_14 1 rfl ?_
        refine z_iload_n Z dX5_splitFrom_15 3 rfl ?_
        refine z_callVu (rest := []) Z dX5_splitFrom_16 0 0 _ _ rfl rfl rfl (zc_X0_countInBranch l D ct (e0) (aK) (aN) (keys) (names) (cnt) (h) (d) (by first | assumption | omega) (by first | assumption | omega) (by first | assumption | omega) (by first | assumption | omega)) (cwV 2 Z.1.2.2.2.2 gX5_splitFrom_X0_countInBranch rfl rfl rfl (by decide +kernel) ⟨Nat.le_of_ble_eq_true rfl, Nat.le_of_ble_eq_true rfl⟩) rfl (Nat.le_of_ble_eq_true rfl) ⟨Nat.le_of_ble_eq_true rfl, Nat.le_of_ble_eq_true rfl⟩ [true, true, true, false, false] [zO e0 0 [.ref aK, .ref aN, zi ((cnt : Nat) : Int)], zAI ct aK 40 (zN keys), zAI ct aN 40 (zN names), zO h0 4 [.ref aD, zi ((sk : Nat) : Int), zi ((mg : Nat) : Int)], zAI ct aD 64 (zN dp)] [zi ((cbF keys cnt h d : Nat) : Int)] rfl rfl rfl rfl ?_
        have hc2 := cbF_le keys cnt h (d)
        refine z_iconst (v := 4) Z dX5_splitFrom_19 rfl ?_
        refine z_icmp_gt Z 24 dX5_splitFrom_20 (by decide) (by omega) (by omega) (fun h20 => ?_) (fun h20 => ?_)
        · refine z_aload_n Z dX5_splitFrom_24 0 rfl ?_
          refine z_iload_n Z dX5_splitFrom_25 1 rfl ?_
          refine z_iload_n Z dX5_splitFrom_26 3 rfl ?_
          refine z_iload_n Z dX5_splitFrom_27 3 rfl ?_
          refine z_iconst (v := 1) Z dX5_splitFrom_28 rfl ?_
          refine z_iadd Z dX5_splitFrom_29 ?_
          refine z_top (y := ((d + 1 : Nat) : Int)) (by omega) ?_
          refine z_callVu (rest := []) Z dX5_splitFrom_30 4 3 _ _ rfl rfl rfl (zc_X5_setDepth l D ct (h0) (aD) (dp) (sk) (mg) (h) (d) (d + 1) (hq) (by first | assumption | omega) (by first | assumption | omega) (by first | assumption | omega)) (cwV 3 Z.1.2.2.2.2 gX5_splitFrom_X5_setDepth rfl rfl rfl (by decide +kernel) ⟨Nat.le_of_ble_eq_true rfl, Nat.le_of_ble_eq_true rfl⟩) rfl (Nat.le_of_ble_eq_true rfl) ⟨Nat.le_of_ble_eq_true rfl, Nat.le_of_ble_eq_true rfl⟩ [false, false, false, true, true] [zO e0 0 [.ref aK, .ref aN, zi ((cnt : Nat) : Int)], zAI ct aK 40 (zN keys), zAI ct aN 40 (zN names), zO h0 4 [.ref aD, zi ((sk : Nat) : Int), zi ((mg : Nat) : Int)], zAI ct aD 64 (zN (seF dp (fhF h d) (lhF h d + 1) (d + 1)))] [] rfl rfl rfl rfl ?_
          refine z_aload_n Z dX5_splitFrom_33 0 rfl ?_
          refine z_dup Z dX5_splitFrom_34 rfl ?_
          refine z_get Z dX5_splitFrom_35 zin_X5_splitFrom_X5 3 1 rfl rfl (by decide) zlk_X5_splitFrom_15 rfl ?_
          refine z_iconst (v := 1) Z dX5_splitFrom_38 rfl ?_
          refine z_iadd Z dX5_splitFrom_39 ?_
          refine z_top (y := ((sk + 1 : Nat) : Int)) (by omega) ?_
          refine z_put (ty := .int) Z dX5_splitFrom_40 zin_X5_splitFrom_X5 tyX5 tyX5_ok nmX5 3 1 [zO e0 0 [.ref aK, .ref aN, zi ((cnt : Nat) : Int)], zAI ct aK 40 (zN keys), zAI ct aN 40 (zN names), zO h0 4 [.ref aD, zi ((sk + 1 : Nat) : Int), zi ((mg : Nat) : Int)], zAI ct aD 64 (zN (seF dp (fhF h d) (lhF h d + 1) (d + 1)))] rfl rfl (by decide) zlk_X5_splitFrom_15 rfl (by decide +kernel) rfl rfl (Nat.le_of_ble_eq_true rfl) rfl ?_
          refine z_iinc (v := ((d + 1 : Nat) : Int)) Z dX5_splitFrom_43 3 [(3, zi ((d + 1 : Nat) : Int)), (0, .ref h0), (1, zi ((h : Nat) : Int)), (2, .ref e0)] rfl (by omega) (by decide) rfl ?_
          refine z_goto Z 7 dX5_splitFrom_46 (by decide) ?_
          refine z_lsub [1, 2, 3, 0] [(0, .ref h0), (1, zi ((h : Nat) : Int)), (2, .ref e0), (3, zi ((d + 1 : Nat) : Int))] rfl ?_
          exact ih0 (d + 1) (seF dp (fhF h d) (lhF h d + 1) (d + 1)) (sk + 1) _ _ (by omega) (by first | rfl | omega) (by first | rfl | omega) (by first | assumption | omega) (fun j hj => seF_lt hq (by omega) j hj) ((spF_next (by omega) (decide_eq_true (by omega))).symm.trans he)
        · have hz9 : spF (bgS keys cnt h) h (6 - dep h) (dep h) (dep, sc) = (dp, sk) := by rw [← he]; exact spF_stop (decide_eq_false (by omega))
          refine z_eqs [zO e0 0 [.ref aK, .ref aN, zi ((cnt : Nat) : Int)], zAI ct aK 40 (zN keys), zAI ct aN 40 (zN names), zO h0 4 [.ref aD, zi (((spF (bgS keys cnt h) h (6 - dep h) (dep h) (dep, sc)).2 : Nat) : Int), zi ((mg : Nat) : Int)], zAI ct aD 64 (zN ((spF (bgS keys cnt h) h (6 - dep h) (dep h) (dep, sc)).1))] _ [] (by rw [hz9]) rfl (rfl) ?_
          exact hR _ _ () trivial dX5_splitFrom_23
  exact LOOP7 (7 - (dep h) + 1) (dep h) dep sc _ _ (Nat.lt_succ_self _) (by first | rfl | omega) (by first | rfl | omega) (by first | assumption | omega) (hdp) (rfl)
theorem zin_X5_mergeFrom_X5 : ∀ w ∈ wsX50, w ∈ wsX5_mergeFrom := by decide +kernel
theorem zlk_X5_mergeFrom_9 : Cond.fieldLink RX5 9 "HashedDirectory$Tree" "depths" "[I" ∈ wsX5_mergeFrom := by decide +kernel
theorem zlk_X5_mergeFrom_19 : Cond.fieldLink RX5 19 "HashedDirectory$Tree" "mergeCount" "I" ∈ wsX5_mergeFrom := by decide +kernel
set_option maxHeartbeats 4000000 in
set_option maxRecDepth 100000 in
theorem zc_X5_mergeFrom (l : Launch) (D : va_G) (ct : zCT) (h0 : Nat) (aD : Nat) (dep : Nat → Nat) (sc : Nat) (mg : Nat) (e0 : Nat) (aK : Nat) (aN : Nat) (keys : Nat → Nat) (names : Nat → Nat) (cnt : Nat) (h : Nat) (hc : cnt ≤ 40) (hk : ∀ j, j < 40 → keys j < 64000) (hdp : ∀ j, j < 64 → dep j < 7) (hh : h < 64) : zMet l yX5_mergeFrom wsX5_mergeFrom ({ frames := 2, cells := 0, slots := 0, locals := 46 } : Room) D ct [.ref h0, zi ((h : Nat) : Int), .ref e0] [zO e0 0 [.ref aK, .ref aN, zi ((cnt : Nat) : Int)], zAI ct aK 40 (zN keys), zAI ct aN 40 (zN names), zO h0 4 [.ref aD, zi ((sc : Nat) : Int), zi ((mg : Nat) : Int)], zAI ct aD 64 (zN dep)] (fun _ : Unit => True) (fun _ => none) (fun _ => [zO e0 0 [.ref aK, .ref aN, zi ((cnt : Nat) : Int)], zAI ct aK 40 (zN keys), zAI ct aN 40 (zN names), zO h0 4 [.ref aD, zi ((sc : Nat) : Int), zi (((mgF (smF keys cnt h) h (dep h) (dep, mg)).2 : Nat) : Int)], zAI ct aD 64 (zN ((mgF (smF keys cnt h) h (dep h) (dep, mg)).1))]) 0 0 := by
  refine zMet_v (cc := cX5_mergeFrom) (maxL := 5) (by decide) rfl (Nat.le_of_ble_eq_true rfl) ?_
  intro p e s m below meth c A Q Z hnm hR
  refine z_eqs _ [(0, .ref h0), (1, zi ((h : Nat) : Int)), (2, .ref e0)] _ rfl rfl rfl ?_
  refine z_aload_n Z dX5_mergeFrom_0 0 rfl ?_
  refine z_get Z dX5_mergeFrom_1 zin_X5_mergeFrom_X5 3 0 rfl rfl (by decide) zlk_X5_mergeFrom_9 rfl ?_
  refine z_iload_n Z dX5_mergeFrom_4 1 rfl ?_
  refine z_ialdN Z dX5_mergeFrom_5 4 (h) rfl (rfl) ⟨by omega, by omega⟩ ?_
  have he1 := hdp (h) (by omega)
  refine z_istore_n Z dX5_mergeFrom_6 [(3, zi ((dep h : Nat) : Int)), (0, .ref h0), (1, zi ((h : Nat) : Int)), (2, .ref e0)] (by decide) rfl ?_
  refine z_lsub [1, 2, 3, 0] [(0, .ref h0), (1, zi ((h : Nat) : Int)), (2, .ref e0), (3, zi ((dep h : Nat) : Int))] rfl ?_
  have LOOP7 : ∀ (N0 : Nat) (d : Nat) (dp : Nat → Nat) (mk : Nat) (x3 : Int) (y3_2 : Int), d + 1 < N0 → x3 = ((d : Nat) : Int) → y3_2 = ((mk : Nat) : Int) → (d ≤ 6) → (∀ j, j < 64 → dp j < 7) → (mgF (smF keys cnt h) h d (dp, mk) = mgF (smF keys cnt h) h (dep h) (dep, mg)) → zW p l e ({ frames := 2, cells := 0, slots := 0, locals := 46 } : Room) s m ([.ref h0, zi ((h : Nat) : Int), .ref e0] : List Value).toArray below meth c D A 5 Q 0 0 [zO e0 0 [.ref aK, .ref aN, zi ((cnt : Nat) : Int)], zAI ct aK 40 (zN keys), zAI ct aN 40 (zN names), zO h0 4 [.ref aD, zi ((sc : Nat) : Int), zi y3_2], zAI ct aD 64 (zN dp)] [(0, .ref h0), (1, zi ((h : Nat) : Int)), (2, .ref e0), (3, zi x3)] 7 [] := by
    intro N0
    induction N0 with
    | zero => intro d dp mk x3 y3_2 hm0; exact absurd hm0 (Nat.not_lt_zero _)
    | succ N0 ih0 =>
      intro d dp mk x3 y3_2 hm0 ex3 ey3_2 hi hq he
      subst ex3
      subst ey3_2
      refine z_iload_n Z dX5_mergeFrom_7 3 rfl ?_
      refine z_if_le Z 77 dX5_mergeFrom_8 (by decide) (by omega) (fun h8 => ?_) (fun h8 => ?_)
      · have hz9 : mgF (smF keys cnt h) h (dep h) (dep, mg) = (dp, mk) := by rw [← he, show d = 0 from by omega]; rfl
        refine z_eqs [zO e0 0 [.ref aK, .ref aN, zi ((cnt : Nat) : Int)], zAI ct aK 40 (zN keys), zAI ct aN 40 (zN names), zO h0 4 [.ref aD, zi ((sc : Nat) : Int), zi (((mgF (smF keys cnt h) h (dep h) (dep, mg)).2 : Nat) : Int)], zAI ct aD 64 (zN ((mgF (smF keys cnt h) h (dep h) (dep, mg)).1))] _ [] (by rw [hz9]) rfl (rfl) ?_
        exact hR _ _ () trivial dX5_mergeFrom_77
      · refine z_aload_n Z dX5_mergeFrom_11 0 rfl ?_
        refine z_get Z dX5_mergeFrom_12 zin_X5_mergeFrom_X5 3 0 rfl rfl (by decide) zlk_X5_mergeFrom_9 rfl ?_
        refine z_iload_n Z dX5_mergeFrom_15 1 rfl ?_
        refine z_iload_n Z dX5_mergeFrom_16 3 rfl ?_
        refine z_callSu (rest := [.ref aD]) Z dX5_mergeFrom_17 (zc_X5_siblingHash l D ct (h) (d) (by first | assumption | omega) (by first | assumption | omega) (by first | assumption | omega)) (va_cwS 2 Z.1.2.2.2.2 gX5_mergeFrom_X5_siblingHash rfl rfl rfl (by decide +kernel) ⟨Nat.le_of_ble_eq_true rfl, Nat.le_of_ble_eq_true rfl⟩) rfl (Nat.le_of_ble_eq_true rfl) ⟨Nat.le_of_ble_eq_true rfl, Nat.le_of_ble_eq_true rfl⟩ [false, false, false, false, false] [zO e0 0 [.ref aK, .ref aN, zi ((cnt : Nat) : Int)], zAI ct aK 40 (zN keys), zAI ct aN 40 (zN names), zO h0 4 [.ref aD, zi ((sc : Nat) : Int), zi ((mk : Nat) : Int)], zAI ct aD 64 (zN dp)] [zi ((sbF h d : Nat) : Int), .ref aD] rfl rfl rfl rfl ?_
        have hs9 := sb_lt (h := h) (d := d) hh (by omega) (by omega)
        refine z_ialdN Z dX5_mergeFrom_20 4 (sbF h d) rfl (rfl) ⟨by omega, by omega⟩ ?_
        have he2 := hq (sbF h d) (by omega)
        refine z_iload_n Z dX5_mergeFrom_21 3 rfl ?_
        refine z_icmp_ne Z 29 dX5_mergeFrom_22 (by decide) (by omega) (by omega) (fun h22 => ?_) (fun h22 => ?_)
        · refine z_iconst (v := 0) Z dX5_mergeFrom_29 rfl ?_
          refine z_istore Z dX5_mergeFrom_30 [(4, zi 0), (0, .ref h0), (1, zi ((h : Nat) : Int)), (2, .ref e0), (3, zi ((d : Nat) : Int))] (by decide) rfl ?_
          refine z_iload Z dX5_mergeFrom_32 0 rfl ?_
          refine z_if_eq Z 49 dX5_mergeFrom_34 (by decide) (by omega) (fun h34 => ?_) (fun h34 => ?_)
          · have hz9 : mgF (smF keys cnt h) h (dep h) (dep, mg) = (dp, mk) := by rw [← he]; exact mgF_stop1 (by omega) (by omega)
            refine z_eqs [zO e0 0 [.ref aK, .ref aN, zi ((cnt : Nat) : Int)], zAI ct aK 40 (zN keys), zAI ct aN 40 (zN names), zO h0 4 [.ref aD, zi ((sc : Nat) : Int), zi (((mgF (smF keys cnt h) h (dep h) (dep, mg)).2 : Nat) : Int)], zAI ct aD 64 (zN ((mgF (smF keys cnt h) h (dep h) (dep, mg)).1))] _ [] (by rw [hz9]) rfl (rfl) ?_
            exact hR _ _ () trivial dX5_mergeFrom_49
          · exfalso; first | contradiction | omega
        · refine z_iconst (v := 1) Z dX5_mergeFrom_25 rfl ?_
          refine z_goto Z 30 dX5_mergeFrom_26 (by decide) ?_
          refine z_istore Z dX5_mergeFrom_30 [(4, zi 1), (0, .ref h0), (1, zi ((h : Nat) : Int)), (2, .ref e0), (3, zi ((d : Nat) : Int))] (by decide) rfl ?_
          refine z_iload Z dX5_mergeFrom_32 0 rfl ?_
          refine z_if_eq Z 49 dX5_mergeFrom_34 (by decide) (by omega) (fun h34 => ?_) (fun h34 => ?_)
          · exfalso; first | contradiction | omega
          · refine z_aload_n Z dX5_mergeFrom_37 3 rfl ?_
            refine z_iload_n Z dX5_mergeFrom_38 2 rfl ?_
            refine z_iload_n Z dX5_mergeFrom_39 4 rfl ?_
            refine z_iconst (v := 1) Z dX5_mergeFrom_40 rfl ?_
            refine z_isub Z dX5_mergeFrom_41 ?_
            refine z_top (y := ((d - 1 : Nat) : Int)) (by omega) ?_
            refine z_callVu (rest := []) Z dX5_mergeFrom_42 0 0 _ _ rfl rfl rfl (zc_X0_countInBranch l D ct (e0) (aK) (aN) (keys) (names) (cnt) (h) (d - 1) (by first | assumption | omega) (by first | assumption | omega) (by first | assumption | omega) (by first | assumption | omega)) (cwV 2 Z.1.2.2.2.2 gX5_mergeFrom_X0_countInBranch rfl rfl rfl (by decide +kernel) ⟨Nat.le_of_ble_eq_true rfl, Nat.le_of_ble_eq_true rfl⟩) rfl (Nat.le_of_ble_eq_true rfl) ⟨Nat.le_of_ble_eq_true rfl, Nat.le_of_ble_eq_true rfl⟩ [true, true, true, false, false] [zO e0 0 [.ref aK, .ref aN, zi ((cnt : Nat) : Int)], zAI ct aK 40 (zN keys), zAI ct aN 40 (zN names), zO h0 4 [.ref aD, zi ((sc : Nat) : Int), zi ((mk : Nat) : Int)], zAI ct aD 64 (zN dp)] [zi ((cbF keys cnt h (d - 1) : Nat) : Int)] rfl rfl rfl rfl ?_
            have hc3 := cbF_le keys cnt h (d - 1)
            refine z_iconst (v := 2) Z dX5_mergeFrom_45 rfl ?_
            refine z_icmp_le Z 50 dX5_mergeFrom_46 (by decide) (by omega) (by omega) (fun h46 => ?_) (fun h46 => ?_)
            · refine z_aload_n Z dX5_mergeFrom_50 1 rfl ?_
              refine z_iload_n Z dX5_mergeFrom_51 2 rfl ?_
              refine z_iload_n Z dX5_mergeFrom_52 4 rfl ?_
              refine z_iconst (v := 1) Z dX5_mergeFrom_53 rfl ?_
              refine z_isub Z dX5_mergeFrom_54 ?_
              refine z_top (y := ((d - 1 : Nat) : Int)) (by omega) ?_
              refine z_iload_n Z dX5_mergeFrom_55 4 rfl ?_
              refine z_iconst (v := 1) Z dX5_mergeFrom_56 rfl ?_
              refine z_isub Z dX5_mergeFrom_57 ?_
              refine z_top (y := ((d - 1 : Nat) : Int)) (by omega) ?_
              refine z_callVu (rest := []) Z dX5_mergeFrom_58 4 3 _ _ rfl rfl rfl (zc_X5_setDepth l D ct (h0) (aD) (dp) (sc) (mk) (h) (d - 1) (d - 1) (hq) (by first | assumption | omega) (by first | assumption | omega) (by first | assumption | omega)) (cwV 3 Z.1.2.2.2.2 gX5_mergeFrom_X5_setDepth rfl rfl rfl (by decide +kernel) ⟨Nat.le_of_ble_eq_true rfl, Nat.le_of_ble_eq_true rfl⟩) rfl (Nat.le_of_ble_eq_true rfl) ⟨Nat.le_of_ble_eq_true rfl, Nat.le_of_ble_eq_true rfl⟩ [false, false, false, true, true] [zO e0 0 [.ref aK, .ref aN, zi ((cnt : Nat) : Int)], zAI ct aK 40 (zN keys), zAI ct aN 40 (zN names), zO h0 4 [.ref aD, zi ((sc : Nat) : Int), zi ((mk : Nat) : Int)], zAI ct aD 64 (zN (seF dp (fhF h (d - 1)) (lhF h (d - 1) + 1) (d - 1)))] [] rfl rfl rfl rfl ?_
              refine z_aload_n Z dX5_mergeFrom_61 1 rfl ?_
              refine z_dup Z dX5_mergeFrom_62 rfl ?_
              refine z_get Z dX5_mergeFrom_63 zin_X5_mergeFrom_X5 3 2 rfl rfl (by decide) zlk_X5_mergeFrom_19 rfl ?_
              refine z_iconst (v := 1) Z dX5_mergeFrom_66 rfl ?_
              refine z_iadd Z dX5_mergeFrom_67 ?_
              refine z_top (y := ((mk + 1 : Nat) : Int)) (by omega) ?_
              refine z_put (ty := .int) Z dX5_mergeFrom_68 zin_X5_mergeFrom_X5 tyX5 tyX5_ok nmX5 3 2 [zO e0 0 [.ref aK, .ref aN, zi ((cnt : Nat) : Int)], zAI ct aK 40 (zN keys), zAI ct aN 40 (zN names), zO h0 4 [.ref aD, zi ((sc : Nat) : Int), zi ((mk + 1 : Nat) : Int)], zAI ct aD 64 (zN (seF dp (fhF h (d - 1)) (lhF h (d - 1) + 1) (d - 1)))] rfl rfl (by decide) zlk_X5_mergeFrom_19 rfl (by decide +kernel) rfl rfl (Nat.le_of_ble_eq_true rfl) rfl ?_
              refine z_iinc (v := ((d - 1 : Nat) : Int)) Z dX5_mergeFrom_71 4 [(3, zi ((d - 1 : Nat) : Int)), (4, zi 1), (0, .ref h0), (1, zi ((h : Nat) : Int)), (2, .ref e0)] rfl (by omega) (by decide) rfl ?_
              refine z_goto Z 7 dX5_mergeFrom_74 (by decide) ?_
              refine z_lsub [2, 3, 4, 0] [(0, .ref h0), (1, zi ((h : Nat) : Int)), (2, .ref e0), (3, zi ((d - 1 : Nat) : Int))] rfl ?_
              exact ih0 (d - 1) (seF dp (fhF h (d - 1)) (lhF h (d - 1) + 1) (d - 1)) (mk + 1) _ _ (by omega) (by first | rfl | omega) (by first | rfl | omega) (by first | assumption | omega) (fun j hj => seF_lt hq (by omega) j hj) ((mgF_next (by omega) (by omega) (decide_eq_true (by omega))).symm.trans he)
            · have hz9 : mgF (smF keys cnt h) h (dep h) (dep, mg) = (dp, mk) := by rw [← he]; exact mgF_stop2 (by omega) (decide_eq_false (by omega))
              refine z_eqs [zO e0 0 [.ref aK, .ref aN, zi ((cnt : Nat) : Int)], zAI ct aK 40 (zN keys), zAI ct aN 40 (zN names), zO h0 4 [.ref aD, zi ((sc : Nat) : Int), zi (((mgF (smF keys cnt h) h (dep h) (dep, mg)).2 : Nat) : Int)], zAI ct aD 64 (zN ((mgF (smF keys cnt h) h (dep h) (dep, mg)).1))] _ [] (by rw [hz9]) rfl (rfl) ?_
              exact hR _ _ () trivial dX5_mergeFrom_49
  exact LOOP7 ((dep h) + 1 + 1) (dep h) dep mg _ _ (Nat.lt_succ_self _) (by first | rfl | omega) (by first | rfl | omega) (by first | assumption | omega) (hdp) (rfl)
theorem zin_X0_copyFrom_X0 : ∀ w ∈ wsX00, w ∈ wsX0_copyFrom := by decide +kernel
theorem zlk_X0_copyFrom_9 : Cond.fieldLink RX0 9 "HashedDirectory$Entries" "keys" "[I" ∈ wsX0_copyFrom := by decide +kernel
theorem zlk_X0_copyFrom_22 : Cond.methodLink RX0 22 arraycopyName ∈ wsX0_copyFrom := by decide +kernel
theorem zlk_X0_copyFrom_acn : Cond.native arraycopyName ∈ wsX0_copyFrom := by decide +kernel
theorem zlk_X0_copyFrom_acs : Cond.static arraycopyName ∈ wsX0_copyFrom := by decide +kernel
theorem zlk_X0_copyFrom_aci : Cond.initialized "java/lang/System" ∈ wsX0_copyFrom := by decide +kernel
theorem zlk_X0_copyFrom_15 : Cond.fieldLink RX0 15 "HashedDirectory$Entries" "names" "[I" ∈ wsX0_copyFrom := by decide +kernel
theorem zlk_X0_copyFrom_18 : Cond.fieldLink RX0 18 "HashedDirectory$Entries" "count" "I" ∈ wsX0_copyFrom := by decide +kernel
set_option maxHeartbeats 4000000 in
set_option maxRecDepth 100000 in
theorem zc_X0_copyFrom (l : Launch) (D : va_G) (ct : zCT) (h0 : Nat) (aK : Nat) (aN : Nat) (keys : Nat → Nat) (names : Nat → Nat) (cnt : Nat) (g0 : Nat) (bK : Nat) (bN : Nat) (keyz : Nat → Nat) (namez : Nat → Nat) (cnz : Nat)  : zMet l yX0_copyFrom wsX0_copyFrom ({ frames := 1, cells := 0, slots := 0, locals := 18 } : Room) D ct [.ref h0, .ref g0] [zO h0 0 [.ref aK, .ref aN, zi ((cnt : Nat) : Int)], zAI ct aK 40 (zN keys), zAI ct aN 40 (zN names), zO g0 0 [.ref bK, .ref bN, zi ((cnz : Nat) : Int)], zAI ct bK 40 (zN keyz), zAI ct bN 40 (zN namez)] (fun _ : Unit => True) (fun _ => none) (fun _ => [zO h0 0 [.ref aK, .ref aN, zi ((cnz : Nat) : Int)], zAI ct aK 40 (zN keyz), zAI ct aN 40 (zN namez), zO g0 0 [.ref bK, .ref bN, zi ((cnz : Nat) : Int)], zAI ct bK 40 (zN keyz), zAI ct bN 40 (zN namez)]) 0 0 := by
  refine zMet_v (cc := cX0_copyFrom) (maxL := 2) (by decide) rfl (Nat.le_of_ble_eq_true rfl) ?_
  intro p e s m below meth c A Q Z hnm hR
  refine z_eqs _ [(0, .ref h0), (1, .ref g0)] _ rfl rfl rfl ?_
  refine z_aload_n Z dX0_copyFrom_0 1 rfl ?_
  refine z_get Z dX0_copyFrom_1 zin_X0_copyFrom_X0 3 0 rfl rfl (by decide) zlk_X0_copyFrom_9 rfl ?_
  refine z_iconst (v := 0) Z dX0_copyFrom_4 rfl ?_
  refine z_aload_n Z dX0_copyFrom_5 0 rfl ?_
  refine z_get Z dX0_copyFrom_6 zin_X0_copyFrom_X0 0 0 rfl rfl (by decide) zlk_X0_copyFrom_9 rfl ?_
  refine z_iconst (v := 0) Z dX0_copyFrom_9 rfl ?_
  refine z_bipush (v := 40) Z dX0_copyFrom_10 (by decide +kernel) ?_
  refine z_copy Z dX0_copyFrom_12 zlk_X0_copyFrom_22 zlk_X0_copyFrom_acn zlk_X0_copyFrom_acs zlk_X0_copyFrom_aci 4 1 [zO h0 0 [.ref aK, .ref aN, zi ((cnt : Nat) : Int)], zAI ct aK 40 (zN keyz), zAI ct aN 40 (zN names), zO g0 0 [.ref bK, .ref bN, zi ((cnz : Nat) : Int)], zAI ct bK 40 (zN keyz), zAI ct bN 40 (zN namez)] rfl rfl (by decide) (Nat.le_of_ble_eq_true rfl) (Nat.le_of_ble_eq_true rfl) rfl rfl ?_
  refine z_aload_n Z dX0_copyFrom_15 1 rfl ?_
  refine z_get Z dX0_copyFrom_16 zin_X0_copyFrom_X0 3 1 rfl rfl (by decide) zlk_X0_copyFrom_15 rfl ?_
  refine z_iconst (v := 0) Z dX0_copyFrom_19 rfl ?_
  refine z_aload_n Z dX0_copyFrom_20 0 rfl ?_
  refine z_get Z dX0_copyFrom_21 zin_X0_copyFrom_X0 0 1 rfl rfl (by decide) zlk_X0_copyFrom_15 rfl ?_
  refine z_iconst (v := 0) Z dX0_copyFrom_24 rfl ?_
  refine z_bipush (v := 40) Z dX0_copyFrom_25 (by decide +kernel) ?_
  refine z_copy Z dX0_copyFrom_27 zlk_X0_copyFrom_22 zlk_X0_copyFrom_acn zlk_X0_copyFrom_acs zlk_X0_copyFrom_aci 5 2 [zO h0 0 [.ref aK, .ref aN, zi ((cnt : Nat) : Int)], zAI ct aK 40 (zN keyz), zAI ct aN 40 (zN namez), zO g0 0 [.ref bK, .ref bN, zi ((cnz : Nat) : Int)], zAI ct bK 40 (zN keyz), zAI ct bN 40 (zN namez)] rfl rfl (by decide) (Nat.le_of_ble_eq_true rfl) (Nat.le_of_ble_eq_true rfl) rfl rfl ?_
  refine z_aload_n Z dX0_copyFrom_30 0 rfl ?_
  refine z_aload_n Z dX0_copyFrom_31 1 rfl ?_
  refine z_get Z dX0_copyFrom_32 zin_X0_copyFrom_X0 3 2 rfl rfl (by decide) zlk_X0_copyFrom_18 rfl ?_
  refine z_put (ty := .int) Z dX0_copyFrom_35 zin_X0_copyFrom_X0 tyX0 tyX0_ok nmX0 0 2 [zO h0 0 [.ref aK, .ref aN, zi ((cnz : Nat) : Int)], zAI ct aK 40 (zN keyz), zAI ct aN 40 (zN namez), zO g0 0 [.ref bK, .ref bN, zi ((cnz : Nat) : Int)], zAI ct bK 40 (zN keyz), zAI ct bN 40 (zN namez)] rfl rfl (by decide) zlk_X0_copyFrom_18 rfl (by decide +kernel) rfl rfl (Nat.le_of_ble_eq_true rfl) rfl ?_
  refine z_eqs [zO h0 0 [.ref aK, .ref aN, zi ((cnz : Nat) : Int)], zAI ct aK 40 (zN keyz), zAI ct aN 40 (zN namez), zO g0 0 [.ref bK, .ref bN, zi ((cnz : Nat) : Int)], zAI ct bK 40 (zN keyz), zAI ct bN 40 (zN namez)] _ [] (rfl) rfl (rfl) ?_
  exact hR _ _ () trivial dX0_copyFrom_38
set_option maxHeartbeats 4000000 in
set_option maxRecDepth 100000 in
theorem zc_X0_copyFrom_r (l : Launch) (D : va_G) (ct : zCT) (h0 : Nat) (aK : Nat) (aN : Nat) (keys : Nat → Nat) (names : Nat → Nat) (cnt : Nat) (g0 : Nat) (bK : Nat) (bN : Nat) (keyz : Nat → Nat) (namez : Nat → Nat) (cnz : Nat)  : zMet l yX0_copyFrom wsX0_copyFrom ({ frames := 1, cells := 0, slots := 0, locals := 18 } : Room) D ct [.ref h0, .ref g0] [zO g0 0 [.ref bK, .ref bN, zi ((cnz : Nat) : Int)], zAI ct bK 40 (zN keyz), zAI ct bN 40 (zN namez), zO h0 0 [.ref aK, .ref aN, zi ((cnt : Nat) : Int)], zAI ct aK 40 (zN keys), zAI ct aN 40 (zN names)] (fun _ : Unit => True) (fun _ => none) (fun _ => [zO g0 0 [.ref bK, .ref bN, zi ((cnz : Nat) : Int)], zAI ct bK 40 (zN keyz), zAI ct bN 40 (zN namez), zO h0 0 [.ref aK, .ref aN, zi ((cnz : Nat) : Int)], zAI ct aK 40 (zN keyz), zAI ct aN 40 (zN namez)]) 0 0 := by
  refine zMet_v (cc := cX0_copyFrom) (maxL := 2) (by decide) rfl (Nat.le_of_ble_eq_true rfl) ?_
  intro p e s m below meth c A Q Z hnm hR
  refine z_eqs _ [(0, .ref h0), (1, .ref g0)] _ rfl rfl rfl ?_
  refine z_aload_n Z dX0_copyFrom_0 1 rfl ?_
  refine z_get Z dX0_copyFrom_1 zin_X0_copyFrom_X0 0 0 rfl rfl (by decide) zlk_X0_copyFrom_9 rfl ?_
  refine z_iconst (v := 0) Z dX0_copyFrom_4 rfl ?_
  refine z_aload_n Z dX0_copyFrom_5 0 rfl ?_
  refine z_get Z dX0_copyFrom_6 zin_X0_copyFrom_X0 3 0 rfl rfl (by decide) zlk_X0_copyFrom_9 rfl ?_
  refine z_iconst (v := 0) Z dX0_copyFrom_9 rfl ?_
  refine z_bipush (v := 40) Z dX0_copyFrom_10 (by decide +kernel) ?_
  refine z_copy Z dX0_copyFrom_12 zlk_X0_copyFrom_22 zlk_X0_copyFrom_acn zlk_X0_copyFrom_acs zlk_X0_copyFrom_aci 1 4 [zO g0 0 [.ref bK, .ref bN, zi ((cnz : Nat) : Int)], zAI ct bK 40 (zN keyz), zAI ct bN 40 (zN namez), zO h0 0 [.ref aK, .ref aN, zi ((cnt : Nat) : Int)], zAI ct aK 40 (zN keyz), zAI ct aN 40 (zN names)] rfl rfl (by decide) (Nat.le_of_ble_eq_true rfl) (Nat.le_of_ble_eq_true rfl) rfl rfl ?_
  refine z_aload_n Z dX0_copyFrom_15 1 rfl ?_
  refine z_get Z dX0_copyFrom_16 zin_X0_copyFrom_X0 0 1 rfl rfl (by decide) zlk_X0_copyFrom_15 rfl ?_
  refine z_iconst (v := 0) Z dX0_copyFrom_19 rfl ?_
  refine z_aload_n Z dX0_copyFrom_20 0 rfl ?_
  refine z_get Z dX0_copyFrom_21 zin_X0_copyFrom_X0 3 1 rfl rfl (by decide) zlk_X0_copyFrom_15 rfl ?_
  refine z_iconst (v := 0) Z dX0_copyFrom_24 rfl ?_
  refine z_bipush (v := 40) Z dX0_copyFrom_25 (by decide +kernel) ?_
  refine z_copy Z dX0_copyFrom_27 zlk_X0_copyFrom_22 zlk_X0_copyFrom_acn zlk_X0_copyFrom_acs zlk_X0_copyFrom_aci 2 5 [zO g0 0 [.ref bK, .ref bN, zi ((cnz : Nat) : Int)], zAI ct bK 40 (zN keyz), zAI ct bN 40 (zN namez), zO h0 0 [.ref aK, .ref aN, zi ((cnt : Nat) : Int)], zAI ct aK 40 (zN keyz), zAI ct aN 40 (zN namez)] rfl rfl (by decide) (Nat.le_of_ble_eq_true rfl) (Nat.le_of_ble_eq_true rfl) rfl rfl ?_
  refine z_aload_n Z dX0_copyFrom_30 0 rfl ?_
  refine z_aload_n Z dX0_copyFrom_31 1 rfl ?_
  refine z_get Z dX0_copyFrom_32 zin_X0_copyFrom_X0 0 2 rfl rfl (by decide) zlk_X0_copyFrom_18 rfl ?_
  refine z_put (ty := .int) Z dX0_copyFrom_35 zin_X0_copyFrom_X0 tyX0 tyX0_ok nmX0 3 2 [zO g0 0 [.ref bK, .ref bN, zi ((cnz : Nat) : Int)], zAI ct bK 40 (zN keyz), zAI ct bN 40 (zN namez), zO h0 0 [.ref aK, .ref aN, zi ((cnz : Nat) : Int)], zAI ct aK 40 (zN keyz), zAI ct aN 40 (zN namez)] rfl rfl (by decide) zlk_X0_copyFrom_18 rfl (by decide +kernel) rfl rfl (Nat.le_of_ble_eq_true rfl) rfl ?_
  refine z_eqs [zO g0 0 [.ref bK, .ref bN, zi ((cnz : Nat) : Int)], zAI ct bK 40 (zN keyz), zAI ct bN 40 (zN namez), zO h0 0 [.ref aK, .ref aN, zi ((cnz : Nat) : Int)], zAI ct aK 40 (zN keyz), zAI ct aN 40 (zN namez)] _ [] (rfl) rfl (rfl) ?_
  exact hR _ _ () trivial dX0_copyFrom_38
theorem zin_X5_copyFrom_X5 : ∀ w ∈ wsX50, w ∈ wsX5_copyFrom := by decide +kernel
theorem zlk_X5_copyFrom_9 : Cond.fieldLink RX5 9 "HashedDirectory$Tree" "depths" "[I" ∈ wsX5_copyFrom := by decide +kernel
theorem zlk_X5_copyFrom_22 : Cond.methodLink RX5 22 arraycopyName ∈ wsX5_copyFrom := by decide +kernel
theorem zlk_X5_copyFrom_acn : Cond.native arraycopyName ∈ wsX5_copyFrom := by decide +kernel
theorem zlk_X5_copyFrom_acs : Cond.static arraycopyName ∈ wsX5_copyFrom := by decide +kernel
theorem zlk_X5_copyFrom_aci : Cond.initialized "java/lang/System" ∈ wsX5_copyFrom := by decide +kernel
theorem zlk_X5_copyFrom_15 : Cond.fieldLink RX5 15 "HashedDirectory$Tree" "splitCount" "I" ∈ wsX5_copyFrom := by decide +kernel
theorem zlk_X5_copyFrom_19 : Cond.fieldLink RX5 19 "HashedDirectory$Tree" "mergeCount" "I" ∈ wsX5_copyFrom := by decide +kernel
set_option maxHeartbeats 4000000 in
set_option maxRecDepth 100000 in
theorem zc_X5_copyFrom (l : Launch) (D : va_G) (ct : zCT) (h0 : Nat) (aD : Nat) (dep : Nat → Nat) (sc : Nat) (mg : Nat) (g0 : Nat) (bD : Nat) (dez : Nat → Nat) (sz : Nat) (mz : Nat)  : zMet l yX5_copyFrom wsX5_copyFrom ({ frames := 1, cells := 0, slots := 0, locals := 18 } : Room) D ct [.ref h0, .ref g0] [zO h0 4 [.ref aD, zi ((sc : Nat) : Int), zi ((mg : Nat) : Int)], zAI ct aD 64 (zN dep), zO g0 4 [.ref bD, zi ((sz : Nat) : Int), zi ((mz : Nat) : Int)], zAI ct bD 64 (zN dez)] (fun _ : Unit => True) (fun _ => none) (fun _ => [zO h0 4 [.ref aD, zi ((sz : Nat) : Int), zi ((mz : Nat) : Int)], zAI ct aD 64 (zN dez), zO g0 4 [.ref bD, zi ((sz : Nat) : Int), zi ((mz : Nat) : Int)], zAI ct bD 64 (zN dez)]) 0 0 := by
  refine zMet_v (cc := cX5_copyFrom) (maxL := 2) (by decide) rfl (Nat.le_of_ble_eq_true rfl) ?_
  intro p e s m below meth c A Q Z hnm hR
  refine z_eqs _ [(0, .ref h0), (1, .ref g0)] _ rfl rfl rfl ?_
  refine z_aload_n Z dX5_copyFrom_0 1 rfl ?_
  refine z_get Z dX5_copyFrom_1 zin_X5_copyFrom_X5 2 0 rfl rfl (by decide) zlk_X5_copyFrom_9 rfl ?_
  refine z_iconst (v := 0) Z dX5_copyFrom_4 rfl ?_
  refine z_aload_n Z dX5_copyFrom_5 0 rfl ?_
  refine z_get Z dX5_copyFrom_6 zin_X5_copyFrom_X5 0 0 rfl rfl (by decide) zlk_X5_copyFrom_9 rfl ?_
  refine z_iconst (v := 0) Z dX5_copyFrom_9 rfl ?_
  refine z_bipush (v := 64) Z dX5_copyFrom_10 (by decide +kernel) ?_
  refine z_copy Z dX5_copyFrom_12 zlk_X5_copyFrom_22 zlk_X5_copyFrom_acn zlk_X5_copyFrom_acs zlk_X5_copyFrom_aci 3 1 [zO h0 4 [.ref aD, zi ((sc : Nat) : Int), zi ((mg : Nat) : Int)], zAI ct aD 64 (zN dez), zO g0 4 [.ref bD, zi ((sz : Nat) : Int), zi ((mz : Nat) : Int)], zAI ct bD 64 (zN dez)] rfl rfl (by decide) (Nat.le_of_ble_eq_true rfl) (Nat.le_of_ble_eq_true rfl) rfl rfl ?_
  refine z_aload_n Z dX5_copyFrom_15 0 rfl ?_
  refine z_aload_n Z dX5_copyFrom_16 1 rfl ?_
  refine z_get Z dX5_copyFrom_17 zin_X5_copyFrom_X5 2 1 rfl rfl (by decide) zlk_X5_copyFrom_15 rfl ?_
  refine z_put (ty := .int) Z dX5_copyFrom_20 zin_X5_copyFrom_X5 tyX5 tyX5_ok nmX5 0 1 [zO h0 4 [.ref aD, zi ((sz : Nat) : Int), zi ((mg : Nat) : Int)], zAI ct aD 64 (zN dez), zO g0 4 [.ref bD, zi ((sz : Nat) : Int), zi ((mz : Nat) : Int)], zAI ct bD 64 (zN dez)] rfl rfl (by decide) zlk_X5_copyFrom_15 rfl (by decide +kernel) rfl rfl (Nat.le_of_ble_eq_true rfl) rfl ?_
  refine z_aload_n Z dX5_copyFrom_23 0 rfl ?_
  refine z_aload_n Z dX5_copyFrom_24 1 rfl ?_
  refine z_get Z dX5_copyFrom_25 zin_X5_copyFrom_X5 2 2 rfl rfl (by decide) zlk_X5_copyFrom_19 rfl ?_
  refine z_put (ty := .int) Z dX5_copyFrom_28 zin_X5_copyFrom_X5 tyX5 tyX5_ok nmX5 0 2 [zO h0 4 [.ref aD, zi ((sz : Nat) : Int), zi ((mz : Nat) : Int)], zAI ct aD 64 (zN dez), zO g0 4 [.ref bD, zi ((sz : Nat) : Int), zi ((mz : Nat) : Int)], zAI ct bD 64 (zN dez)] rfl rfl (by decide) zlk_X5_copyFrom_19 rfl (by decide +kernel) rfl rfl (Nat.le_of_ble_eq_true rfl) rfl ?_
  refine z_eqs [zO h0 4 [.ref aD, zi ((sz : Nat) : Int), zi ((mz : Nat) : Int)], zAI ct aD 64 (zN dez), zO g0 4 [.ref bD, zi ((sz : Nat) : Int), zi ((mz : Nat) : Int)], zAI ct bD 64 (zN dez)] _ [] (rfl) rfl (rfl) ?_
  exact hR _ _ () trivial dX5_copyFrom_31
set_option maxHeartbeats 4000000 in
set_option maxRecDepth 100000 in
theorem zc_X5_copyFrom_r (l : Launch) (D : va_G) (ct : zCT) (h0 : Nat) (aD : Nat) (dep : Nat → Nat) (sc : Nat) (mg : Nat) (g0 : Nat) (bD : Nat) (dez : Nat → Nat) (sz : Nat) (mz : Nat)  : zMet l yX5_copyFrom wsX5_copyFrom ({ frames := 1, cells := 0, slots := 0, locals := 18 } : Room) D ct [.ref h0, .ref g0] [zO g0 4 [.ref bD, zi ((sz : Nat) : Int), zi ((mz : Nat) : Int)], zAI ct bD 64 (zN dez), zO h0 4 [.ref aD, zi ((sc : Nat) : Int), zi ((mg : Nat) : Int)], zAI ct aD 64 (zN dep)] (fun _ : Unit => True) (fun _ => none) (fun _ => [zO g0 4 [.ref bD, zi ((sz : Nat) : Int), zi ((mz : Nat) : Int)], zAI ct bD 64 (zN dez), zO h0 4 [.ref aD, zi ((sz : Nat) : Int), zi ((mz : Nat) : Int)], zAI ct aD 64 (zN dez)]) 0 0 := by
  refine zMet_v (cc := cX5_copyFrom) (maxL := 2) (by decide) rfl (Nat.le_of_ble_eq_true rfl) ?_
  intro p e s m below meth c A Q Z hnm hR
  refine z_eqs _ [(0, .ref h0), (1, .ref g0)] _ rfl rfl rfl ?_
  refine z_aload_n Z dX5_copyFrom_0 1 rfl ?_
  refine z_get Z dX5_copyFrom_1 zin_X5_copyFrom_X5 0 0 rfl rfl (by decide) zlk_X5_copyFrom_9 rfl ?_
  refine z_iconst (v := 0) Z dX5_copyFrom_4 rfl ?_
  refine z_aload_n Z dX5_copyFrom_5 0 rfl ?_
  refine z_get Z dX5_copyFrom_6 zin_X5_copyFrom_X5 2 0 rfl rfl (by decide) zlk_X5_copyFrom_9 rfl ?_
  refine z_iconst (v := 0) Z dX5_copyFrom_9 rfl ?_
  refine z_bipush (v := 64) Z dX5_copyFrom_10 (by decide +kernel) ?_
  refine z_copy Z dX5_copyFrom_12 zlk_X5_copyFrom_22 zlk_X5_copyFrom_acn zlk_X5_copyFrom_acs zlk_X5_copyFrom_aci 1 3 [zO g0 4 [.ref bD, zi ((sz : Nat) : Int), zi ((mz : Nat) : Int)], zAI ct bD 64 (zN dez), zO h0 4 [.ref aD, zi ((sc : Nat) : Int), zi ((mg : Nat) : Int)], zAI ct aD 64 (zN dez)] rfl rfl (by decide) (Nat.le_of_ble_eq_true rfl) (Nat.le_of_ble_eq_true rfl) rfl rfl ?_
  refine z_aload_n Z dX5_copyFrom_15 0 rfl ?_
  refine z_aload_n Z dX5_copyFrom_16 1 rfl ?_
  refine z_get Z dX5_copyFrom_17 zin_X5_copyFrom_X5 0 1 rfl rfl (by decide) zlk_X5_copyFrom_15 rfl ?_
  refine z_put (ty := .int) Z dX5_copyFrom_20 zin_X5_copyFrom_X5 tyX5 tyX5_ok nmX5 2 1 [zO g0 4 [.ref bD, zi ((sz : Nat) : Int), zi ((mz : Nat) : Int)], zAI ct bD 64 (zN dez), zO h0 4 [.ref aD, zi ((sz : Nat) : Int), zi ((mg : Nat) : Int)], zAI ct aD 64 (zN dez)] rfl rfl (by decide) zlk_X5_copyFrom_15 rfl (by decide +kernel) rfl rfl (Nat.le_of_ble_eq_true rfl) rfl ?_
  refine z_aload_n Z dX5_copyFrom_23 0 rfl ?_
  refine z_aload_n Z dX5_copyFrom_24 1 rfl ?_
  refine z_get Z dX5_copyFrom_25 zin_X5_copyFrom_X5 0 2 rfl rfl (by decide) zlk_X5_copyFrom_19 rfl ?_
  refine z_put (ty := .int) Z dX5_copyFrom_28 zin_X5_copyFrom_X5 tyX5 tyX5_ok nmX5 2 2 [zO g0 4 [.ref bD, zi ((sz : Nat) : Int), zi ((mz : Nat) : Int)], zAI ct bD 64 (zN dez), zO h0 4 [.ref aD, zi ((sz : Nat) : Int), zi ((mz : Nat) : Int)], zAI ct aD 64 (zN dez)] rfl rfl (by decide) zlk_X5_copyFrom_19 rfl (by decide +kernel) rfl rfl (Nat.le_of_ble_eq_true rfl) rfl ?_
  refine z_eqs [zO g0 4 [.ref bD, zi ((sz : Nat) : Int), zi ((mz : Nat) : Int)], zAI ct bD 64 (zN dez), zO h0 4 [.ref aD, zi ((sz : Nat) : Int), zi ((mz : Nat) : Int)], zAI ct aD 64 (zN dez)] _ [] (rfl) rfl (rfl) ?_
  exact hR _ _ () trivial dX5_copyFrom_31
theorem zin_X3_copyFrom_X3 : ∀ w ∈ wsX30, w ∈ wsX3_copyFrom := by decide +kernel
theorem zlk_X3_copyFrom_12 : Cond.fieldLink RX3 12 "HashedDirectory$State" "entries" "LHashedDirectory$Entries;" ∈ wsX3_copyFrom := by decide +kernel
theorem zlk_X3_copyFrom_21 : Cond.fieldLink RX3 21 "HashedDirectory$State" "tree" "LHashedDirectory$Tree;" ∈ wsX3_copyFrom := by decide +kernel
theorem zlk_X3_copyFrom_25 : Cond.fieldLink RX3 25 "HashedDirectory$State" "positions" "[I" ∈ wsX3_copyFrom := by decide +kernel
theorem zlk_X3_copyFrom_40 : Cond.methodLink RX3 40 arraycopyName ∈ wsX3_copyFrom := by decide +kernel
theorem zlk_X3_copyFrom_acn : Cond.native arraycopyName ∈ wsX3_copyFrom := by decide +kernel
theorem zlk_X3_copyFrom_acs : Cond.static arraycopyName ∈ wsX3_copyFrom := by decide +kernel
theorem zlk_X3_copyFrom_aci : Cond.initialized "java/lang/System" ∈ wsX3_copyFrom := by decide +kernel
theorem zlk_X3_copyFrom_29 : Cond.fieldLink RX3 29 "HashedDirectory$State" "idsGiven" "I" ∈ wsX3_copyFrom := by decide +kernel
set_option maxHeartbeats 4000000 in
set_option maxRecDepth 100000 in
theorem zc_X3_copyFrom (l : Launch) (D : va_G) (ct : zCT) (h0 : Nat) (aE : Nat) (aT : Nat) (aP : Nat) (aK : Nat) (aN : Nat) (aD : Nat) (keys : Nat → Nat) (names : Nat → Nat) (dep : Nat → Nat) (pos : Nat → Int) (cnt : Nat) (sc : Nat) (mg : Nat) (ids : Nat) (g0 : Nat) (bE : Nat) (bT : Nat) (bP : Nat) (bK : Nat) (bN : Nat) (bD : Nat) (keyz : Nat → Nat) (namez : Nat → Nat) (dez : Nat → Nat) (poz : Nat → Int) (cnz : Nat) (sz : Nat) (mz : Nat) (idz : Nat)  : zMet l yX3_copyFrom wsX3_copyFrom ({ frames := 2, cells := 0, slots := 0, locals := 39 } : Room) D ct [.ref h0, .ref g0] [zO h0 2 [.ref aE, .ref aT, .ref aP, zi ((ids : Nat) : Int)], zO aE 0 [.ref aK, .ref aN, zi ((cnt : Nat) : Int)], zAI ct aK 40 (zN keys), zAI ct aN 40 (zN names), zO aT 4 [.ref aD, zi ((sc : Nat) : Int), zi ((mg : Nat) : Int)], zAI ct aD 64 (zN dep), zAI ct aP 4 pos, zO g0 2 [.ref bE, .ref bT, .ref bP, zi ((idz : Nat) : Int)], zO bE 0 [.ref bK, .ref bN, zi ((cnz : Nat) : Int)], zAI ct bK 40 (zN keyz), zAI ct bN 40 (zN namez), zO bT 4 [.ref bD, zi ((sz : Nat) : Int), zi ((mz : Nat) : Int)], zAI ct bD 64 (zN dez), zAI ct bP 4 poz] (fun _ : Unit => True) (fun _ => none) (fun _ => [zO h0 2 [.ref aE, .ref aT, .ref aP, zi ((idz : Nat) : Int)], zO aE 0 [.ref aK, .ref aN, zi ((cnz : Nat) : Int)], zAI ct aK 40 (zN keyz), zAI ct aN 40 (zN namez), zO aT 4 [.ref aD, zi ((sz : Nat) : Int), zi ((mz : Nat) : Int)], zAI ct aD 64 (zN dez), zAI ct aP 4 poz, zO g0 2 [.ref bE, .ref bT, .ref bP, zi ((idz : Nat) : Int)], zO bE 0 [.ref bK, .ref bN, zi ((cnz : Nat) : Int)], zAI ct bK 40 (zN keyz), zAI ct bN 40 (zN namez), zO bT 4 [.ref bD, zi ((sz : Nat) : Int), zi ((mz : Nat) : Int)], zAI ct bD 64 (zN dez), zAI ct bP 4 poz]) 0 0 := by
  refine zMet_v (cc := cX3_copyFrom) (maxL := 2) (by decide) rfl (Nat.le_of_ble_eq_true rfl) ?_
  intro p e s m below meth c A Q Z hnm hR
  refine z_eqs _ [(0, .ref h0), (1, .ref g0)] _ rfl rfl rfl ?_
  refine z_aload_n Z dX3_copyFrom_0 0 rfl ?_
  refine z_get Z dX3_copyFrom_1 zin_X3_copyFrom_X3 0 0 rfl rfl (by decide) zlk_X3_copyFrom_12 rfl ?_
  refine z_aload_n Z dX3_copyFrom_4 1 rfl ?_
  refine z_get Z dX3_copyFrom_5 zin_X3_copyFrom_X3 7 0 rfl rfl (by decide) zlk_X3_copyFrom_12 rfl ?_
  refine z_callVu (rest := []) Z dX3_copyFrom_8 0 1 _ _ rfl rfl rfl (zc_X0_copyFrom l D ct (aE) (aK) (aN) (keys) (names) (cnt) (bE) (bK) (bN) (keyz) (namez) (cnz)) (cwV 1 Z.1.2.2.2.2 gX3_copyFrom_X0_copyFrom rfl rfl rfl (by decide +kernel) ⟨Nat.le_of_ble_eq_true rfl, Nat.le_of_ble_eq_true rfl⟩) rfl (Nat.le_of_ble_eq_true rfl) ⟨Nat.le_of_ble_eq_true rfl, Nat.le_of_ble_eq_true rfl⟩ [false, true, true, true, false, false, false, false, true, true, true, false, false, false] [zO h0 2 [.ref aE, .ref aT, .ref aP, zi ((ids : Nat) : Int)], zO aE 0 [.ref aK, .ref aN, zi ((cnz : Nat) : Int)], zAI ct aK 40 (zN keyz), zAI ct aN 40 (zN namez), zO aT 4 [.ref aD, zi ((sc : Nat) : Int), zi ((mg : Nat) : Int)], zAI ct aD 64 (zN dep), zAI ct aP 4 pos, zO g0 2 [.ref bE, .ref bT, .ref bP, zi ((idz : Nat) : Int)], zO bE 0 [.ref bK, .ref bN, zi ((cnz : Nat) : Int)], zAI ct bK 40 (zN keyz), zAI ct bN 40 (zN namez), zO bT 4 [.ref bD, zi ((sz : Nat) : Int), zi ((mz : Nat) : Int)], zAI ct bD 64 (zN dez), zAI ct bP 4 poz] [] rfl rfl rfl rfl ?_
  refine z_aload_n Z dX3_copyFrom_11 0 rfl ?_
  refine z_get Z dX3_copyFrom_12 zin_X3_copyFrom_X3 0 1 rfl rfl (by decide) zlk_X3_copyFrom_21 rfl ?_
  refine z_aload_n Z dX3_copyFrom_15 1 rfl ?_
  refine z_get Z dX3_copyFrom_16 zin_X3_copyFrom_X3 7 1 rfl rfl (by decide) zlk_X3_copyFrom_21 rfl ?_
  refine z_callVu (rest := []) Z dX3_copyFrom_19 4 4 _ _ rfl rfl rfl (zc_X5_copyFrom l D ct (aT) (aD) (dep) (sc) (mg) (bT) (bD) (dez) (sz) (mz)) (cwV 1 Z.1.2.2.2.2 gX3_copyFrom_X5_copyFrom rfl rfl rfl (by decide +kernel) ⟨Nat.le_of_ble_eq_true rfl, Nat.le_of_ble_eq_true rfl⟩) rfl (Nat.le_of_ble_eq_true rfl) ⟨Nat.le_of_ble_eq_true rfl, Nat.le_of_ble_eq_true rfl⟩ [false, false, false, false, true, true, false, false, false, false, false, true, true, false] [zO h0 2 [.ref aE, .ref aT, .ref aP, zi ((ids : Nat) : Int)], zO aE 0 [.ref aK, .ref aN, zi ((cnz : Nat) : Int)], zAI ct aK 40 (zN keyz), zAI ct aN 40 (zN namez), zO aT 4 [.ref aD, zi ((sz : Nat) : Int), zi ((mz : Nat) : Int)], zAI ct aD 64 (zN dez), zAI ct aP 4 pos, zO g0 2 [.ref bE, .ref bT, .ref bP, zi ((idz : Nat) : Int)], zO bE 0 [.ref bK, .ref bN, zi ((cnz : Nat) : Int)], zAI ct bK 40 (zN keyz), zAI ct bN 40 (zN namez), zO bT 4 [.ref bD, zi ((sz : Nat) : Int), zi ((mz : Nat) : Int)], zAI ct bD 64 (zN dez), zAI ct bP 4 poz] [] rfl rfl rfl rfl ?_
  refine z_aload_n Z dX3_copyFrom_22 1 rfl ?_
  refine z_get Z dX3_copyFrom_23 zin_X3_copyFrom_X3 7 2 rfl rfl (by decide) zlk_X3_copyFrom_25 rfl ?_
  refine z_iconst (v := 0) Z dX3_copyFrom_26 rfl ?_
  refine z_aload_n Z dX3_copyFrom_27 0 rfl ?_
  refine z_get Z dX3_copyFrom_28 zin_X3_copyFrom_X3 0 2 rfl rfl (by decide) zlk_X3_copyFrom_25 rfl ?_
  refine z_iconst (v := 0) Z dX3_copyFrom_31 rfl ?_
  refine z_iconst (v := 4) Z dX3_copyFrom_32 rfl ?_
  refine z_copy Z dX3_copyFrom_33 zlk_X3_copyFrom_40 zlk_X3_copyFrom_acn zlk_X3_copyFrom_acs zlk_X3_copyFrom_aci 13 6 [zO h0 2 [.ref aE, .ref aT, .ref aP, zi ((ids : Nat) : Int)], zO aE 0 [.ref aK, .ref aN, zi ((cnz : Nat) : Int)], zAI ct aK 40 (zN keyz), zAI ct aN 40 (zN namez), zO aT 4 [.ref aD, zi ((sz : Nat) : Int), zi ((mz : Nat) : Int)], zAI ct aD 64 (zN dez), zAI ct aP 4 poz, zO g0 2 [.ref bE, .ref bT, .ref bP, zi ((idz : Nat) : Int)], zO bE 0 [.ref bK, .ref bN, zi ((cnz : Nat) : Int)], zAI ct bK 40 (zN keyz), zAI ct bN 40 (zN namez), zO bT 4 [.ref bD, zi ((sz : Nat) : Int), zi ((mz : Nat) : Int)], zAI ct bD 64 (zN dez), zAI ct bP 4 poz] rfl rfl (by decide) (Nat.le_of_ble_eq_true rfl) (Nat.le_of_ble_eq_true rfl) rfl rfl ?_
  refine z_aload_n Z dX3_copyFrom_36 0 rfl ?_
  refine z_aload_n Z dX3_copyFrom_37 1 rfl ?_
  refine z_get Z dX3_copyFrom_38 zin_X3_copyFrom_X3 7 3 rfl rfl (by decide) zlk_X3_copyFrom_29 rfl ?_
  refine z_put (ty := .int) Z dX3_copyFrom_41 zin_X3_copyFrom_X3 tyX3 tyX3_ok nmX3 0 3 [zO h0 2 [.ref aE, .ref aT, .ref aP, zi ((idz : Nat) : Int)], zO aE 0 [.ref aK, .ref aN, zi ((cnz : Nat) : Int)], zAI ct aK 40 (zN keyz), zAI ct aN 40 (zN namez), zO aT 4 [.ref aD, zi ((sz : Nat) : Int), zi ((mz : Nat) : Int)], zAI ct aD 64 (zN dez), zAI ct aP 4 poz, zO g0 2 [.ref bE, .ref bT, .ref bP, zi ((idz : Nat) : Int)], zO bE 0 [.ref bK, .ref bN, zi ((cnz : Nat) : Int)], zAI ct bK 40 (zN keyz), zAI ct bN 40 (zN namez), zO bT 4 [.ref bD, zi ((sz : Nat) : Int), zi ((mz : Nat) : Int)], zAI ct bD 64 (zN dez), zAI ct bP 4 poz] rfl rfl (by decide) zlk_X3_copyFrom_29 rfl (by decide +kernel) rfl rfl (Nat.le_of_ble_eq_true rfl) rfl ?_
  refine z_eqs [zO h0 2 [.ref aE, .ref aT, .ref aP, zi ((idz : Nat) : Int)], zO aE 0 [.ref aK, .ref aN, zi ((cnz : Nat) : Int)], zAI ct aK 40 (zN keyz), zAI ct aN 40 (zN namez), zO aT 4 [.ref aD, zi ((sz : Nat) : Int), zi ((mz : Nat) : Int)], zAI ct aD 64 (zN dez), zAI ct aP 4 poz, zO g0 2 [.ref bE, .ref bT, .ref bP, zi ((idz : Nat) : Int)], zO bE 0 [.ref bK, .ref bN, zi ((cnz : Nat) : Int)], zAI ct bK 40 (zN keyz), zAI ct bN 40 (zN namez), zO bT 4 [.ref bD, zi ((sz : Nat) : Int), zi ((mz : Nat) : Int)], zAI ct bD 64 (zN dez), zAI ct bP 4 poz] _ [] (rfl) rfl (rfl) ?_
  exact hR _ _ () trivial dX3_copyFrom_44
set_option maxHeartbeats 4000000 in
set_option maxRecDepth 100000 in
theorem zc_X3_copyFrom_r (l : Launch) (D : va_G) (ct : zCT) (h0 : Nat) (aE : Nat) (aT : Nat) (aP : Nat) (aK : Nat) (aN : Nat) (aD : Nat) (keys : Nat → Nat) (names : Nat → Nat) (dep : Nat → Nat) (pos : Nat → Int) (cnt : Nat) (sc : Nat) (mg : Nat) (ids : Nat) (g0 : Nat) (bE : Nat) (bT : Nat) (bP : Nat) (bK : Nat) (bN : Nat) (bD : Nat) (keyz : Nat → Nat) (namez : Nat → Nat) (dez : Nat → Nat) (poz : Nat → Int) (cnz : Nat) (sz : Nat) (mz : Nat) (idz : Nat)  : zMet l yX3_copyFrom wsX3_copyFrom ({ frames := 2, cells := 0, slots := 0, locals := 39 } : Room) D ct [.ref h0, .ref g0] [zO g0 2 [.ref bE, .ref bT, .ref bP, zi ((idz : Nat) : Int)], zO bE 0 [.ref bK, .ref bN, zi ((cnz : Nat) : Int)], zAI ct bK 40 (zN keyz), zAI ct bN 40 (zN namez), zO bT 4 [.ref bD, zi ((sz : Nat) : Int), zi ((mz : Nat) : Int)], zAI ct bD 64 (zN dez), zAI ct bP 4 poz, zO h0 2 [.ref aE, .ref aT, .ref aP, zi ((ids : Nat) : Int)], zO aE 0 [.ref aK, .ref aN, zi ((cnt : Nat) : Int)], zAI ct aK 40 (zN keys), zAI ct aN 40 (zN names), zO aT 4 [.ref aD, zi ((sc : Nat) : Int), zi ((mg : Nat) : Int)], zAI ct aD 64 (zN dep), zAI ct aP 4 pos] (fun _ : Unit => True) (fun _ => none) (fun _ => [zO g0 2 [.ref bE, .ref bT, .ref bP, zi ((idz : Nat) : Int)], zO bE 0 [.ref bK, .ref bN, zi ((cnz : Nat) : Int)], zAI ct bK 40 (zN keyz), zAI ct bN 40 (zN namez), zO bT 4 [.ref bD, zi ((sz : Nat) : Int), zi ((mz : Nat) : Int)], zAI ct bD 64 (zN dez), zAI ct bP 4 poz, zO h0 2 [.ref aE, .ref aT, .ref aP, zi ((idz : Nat) : Int)], zO aE 0 [.ref aK, .ref aN, zi ((cnz : Nat) : Int)], zAI ct aK 40 (zN keyz), zAI ct aN 40 (zN namez), zO aT 4 [.ref aD, zi ((sz : Nat) : Int), zi ((mz : Nat) : Int)], zAI ct aD 64 (zN dez), zAI ct aP 4 poz]) 0 0 := by
  refine zMet_v (cc := cX3_copyFrom) (maxL := 2) (by decide) rfl (Nat.le_of_ble_eq_true rfl) ?_
  intro p e s m below meth c A Q Z hnm hR
  refine z_eqs _ [(0, .ref h0), (1, .ref g0)] _ rfl rfl rfl ?_
  refine z_aload_n Z dX3_copyFrom_0 0 rfl ?_
  refine z_get Z dX3_copyFrom_1 zin_X3_copyFrom_X3 7 0 rfl rfl (by decide) zlk_X3_copyFrom_12 rfl ?_
  refine z_aload_n Z dX3_copyFrom_4 1 rfl ?_
  refine z_get Z dX3_copyFrom_5 zin_X3_copyFrom_X3 0 0 rfl rfl (by decide) zlk_X3_copyFrom_12 rfl ?_
  refine z_callVu (rest := []) Z dX3_copyFrom_8 0 8 _ _ rfl rfl rfl (zc_X0_copyFrom_r l D ct (aE) (aK) (aN) (keys) (names) (cnt) (bE) (bK) (bN) (keyz) (namez) (cnz)) (cwV 1 Z.1.2.2.2.2 gX3_copyFrom_X0_copyFrom rfl rfl rfl (by decide +kernel) ⟨Nat.le_of_ble_eq_true rfl, Nat.le_of_ble_eq_true rfl⟩) rfl (Nat.le_of_ble_eq_true rfl) ⟨Nat.le_of_ble_eq_true rfl, Nat.le_of_ble_eq_true rfl⟩ [false, true, true, true, false, false, false, false, true, true, true, false, false, false] [zO g0 2 [.ref bE, .ref bT, .ref bP, zi ((idz : Nat) : Int)], zO bE 0 [.ref bK, .ref bN, zi ((cnz : Nat) : Int)], zAI ct bK 40 (zN keyz), zAI ct bN 40 (zN namez), zO bT 4 [.ref bD, zi ((sz : Nat) : Int), zi ((mz : Nat) : Int)], zAI ct bD 64 (zN dez), zAI ct bP 4 poz, zO h0 2 [.ref aE, .ref aT, .ref aP, zi ((ids : Nat) : Int)], zO aE 0 [.ref aK, .ref aN, zi ((cnz : Nat) : Int)], zAI ct aK 40 (zN keyz), zAI ct aN 40 (zN namez), zO aT 4 [.ref aD, zi ((sc : Nat) : Int), zi ((mg : Nat) : Int)], zAI ct aD 64 (zN dep), zAI ct aP 4 pos] [] rfl rfl rfl rfl ?_
  refine z_aload_n Z dX3_copyFrom_11 0 rfl ?_
  refine z_get Z dX3_copyFrom_12 zin_X3_copyFrom_X3 7 1 rfl rfl (by decide) zlk_X3_copyFrom_21 rfl ?_
  refine z_aload_n Z dX3_copyFrom_15 1 rfl ?_
  refine z_get Z dX3_copyFrom_16 zin_X3_copyFrom_X3 0 1 rfl rfl (by decide) zlk_X3_copyFrom_21 rfl ?_
  refine z_callVu (rest := []) Z dX3_copyFrom_19 4 11 _ _ rfl rfl rfl (zc_X5_copyFrom_r l D ct (aT) (aD) (dep) (sc) (mg) (bT) (bD) (dez) (sz) (mz)) (cwV 1 Z.1.2.2.2.2 gX3_copyFrom_X5_copyFrom rfl rfl rfl (by decide +kernel) ⟨Nat.le_of_ble_eq_true rfl, Nat.le_of_ble_eq_true rfl⟩) rfl (Nat.le_of_ble_eq_true rfl) ⟨Nat.le_of_ble_eq_true rfl, Nat.le_of_ble_eq_true rfl⟩ [false, false, false, false, true, true, false, false, false, false, false, true, true, false] [zO g0 2 [.ref bE, .ref bT, .ref bP, zi ((idz : Nat) : Int)], zO bE 0 [.ref bK, .ref bN, zi ((cnz : Nat) : Int)], zAI ct bK 40 (zN keyz), zAI ct bN 40 (zN namez), zO bT 4 [.ref bD, zi ((sz : Nat) : Int), zi ((mz : Nat) : Int)], zAI ct bD 64 (zN dez), zAI ct bP 4 poz, zO h0 2 [.ref aE, .ref aT, .ref aP, zi ((ids : Nat) : Int)], zO aE 0 [.ref aK, .ref aN, zi ((cnz : Nat) : Int)], zAI ct aK 40 (zN keyz), zAI ct aN 40 (zN namez), zO aT 4 [.ref aD, zi ((sz : Nat) : Int), zi ((mz : Nat) : Int)], zAI ct aD 64 (zN dez), zAI ct aP 4 pos] [] rfl rfl rfl rfl ?_
  refine z_aload_n Z dX3_copyFrom_22 1 rfl ?_
  refine z_get Z dX3_copyFrom_23 zin_X3_copyFrom_X3 0 2 rfl rfl (by decide) zlk_X3_copyFrom_25 rfl ?_
  refine z_iconst (v := 0) Z dX3_copyFrom_26 rfl ?_
  refine z_aload_n Z dX3_copyFrom_27 0 rfl ?_
  refine z_get Z dX3_copyFrom_28 zin_X3_copyFrom_X3 7 2 rfl rfl (by decide) zlk_X3_copyFrom_25 rfl ?_
  refine z_iconst (v := 0) Z dX3_copyFrom_31 rfl ?_
  refine z_iconst (v := 4) Z dX3_copyFrom_32 rfl ?_
  refine z_copy Z dX3_copyFrom_33 zlk_X3_copyFrom_40 zlk_X3_copyFrom_acn zlk_X3_copyFrom_acs zlk_X3_copyFrom_aci 6 13 [zO g0 2 [.ref bE, .ref bT, .ref bP, zi ((idz : Nat) : Int)], zO bE 0 [.ref bK, .ref bN, zi ((cnz : Nat) : Int)], zAI ct bK 40 (zN keyz), zAI ct bN 40 (zN namez), zO bT 4 [.ref bD, zi ((sz : Nat) : Int), zi ((mz : Nat) : Int)], zAI ct bD 64 (zN dez), zAI ct bP 4 poz, zO h0 2 [.ref aE, .ref aT, .ref aP, zi ((ids : Nat) : Int)], zO aE 0 [.ref aK, .ref aN, zi ((cnz : Nat) : Int)], zAI ct aK 40 (zN keyz), zAI ct aN 40 (zN namez), zO aT 4 [.ref aD, zi ((sz : Nat) : Int), zi ((mz : Nat) : Int)], zAI ct aD 64 (zN dez), zAI ct aP 4 poz] rfl rfl (by decide) (Nat.le_of_ble_eq_true rfl) (Nat.le_of_ble_eq_true rfl) rfl rfl ?_
  refine z_aload_n Z dX3_copyFrom_36 0 rfl ?_
  refine z_aload_n Z dX3_copyFrom_37 1 rfl ?_
  refine z_get Z dX3_copyFrom_38 zin_X3_copyFrom_X3 0 3 rfl rfl (by decide) zlk_X3_copyFrom_29 rfl ?_
  refine z_put (ty := .int) Z dX3_copyFrom_41 zin_X3_copyFrom_X3 tyX3 tyX3_ok nmX3 7 3 [zO g0 2 [.ref bE, .ref bT, .ref bP, zi ((idz : Nat) : Int)], zO bE 0 [.ref bK, .ref bN, zi ((cnz : Nat) : Int)], zAI ct bK 40 (zN keyz), zAI ct bN 40 (zN namez), zO bT 4 [.ref bD, zi ((sz : Nat) : Int), zi ((mz : Nat) : Int)], zAI ct bD 64 (zN dez), zAI ct bP 4 poz, zO h0 2 [.ref aE, .ref aT, .ref aP, zi ((idz : Nat) : Int)], zO aE 0 [.ref aK, .ref aN, zi ((cnz : Nat) : Int)], zAI ct aK 40 (zN keyz), zAI ct aN 40 (zN namez), zO aT 4 [.ref aD, zi ((sz : Nat) : Int), zi ((mz : Nat) : Int)], zAI ct aD 64 (zN dez), zAI ct aP 4 poz] rfl rfl (by decide) zlk_X3_copyFrom_29 rfl (by decide +kernel) rfl rfl (Nat.le_of_ble_eq_true rfl) rfl ?_
  refine z_eqs [zO g0 2 [.ref bE, .ref bT, .ref bP, zi ((idz : Nat) : Int)], zO bE 0 [.ref bK, .ref bN, zi ((cnz : Nat) : Int)], zAI ct bK 40 (zN keyz), zAI ct bN 40 (zN namez), zO bT 4 [.ref bD, zi ((sz : Nat) : Int), zi ((mz : Nat) : Int)], zAI ct bD 64 (zN dez), zAI ct bP 4 poz, zO h0 2 [.ref aE, .ref aT, .ref aP, zi ((idz : Nat) : Int)], zO aE 0 [.ref aK, .ref aN, zi ((cnz : Nat) : Int)], zAI ct aK 40 (zN keyz), zAI ct aN 40 (zN namez), zO aT 4 [.ref aD, zi ((sz : Nat) : Int), zi ((mz : Nat) : Int)], zAI ct aD 64 (zN dez), zAI ct aP 4 poz] _ [] (rfl) rfl (rfl) ?_
  exact hR _ _ () trivial dX3_copyFrom_44
theorem zin_X3_canRenameTo_X3 : ∀ w ∈ wsX30, w ∈ wsX3_canRenameTo := by decide +kernel
theorem zlk_X3_canRenameTo_29 : Cond.fieldLink RX3 29 "HashedDirectory$State" "idsGiven" "I" ∈ wsX3_canRenameTo := by decide +kernel
theorem zlk_X3_canRenameTo_12 : Cond.fieldLink RX3 12 "HashedDirectory$State" "entries" "LHashedDirectory$Entries;" ∈ wsX3_canRenameTo := by decide +kernel
set_option maxHeartbeats 4000000 in
set_option maxRecDepth 100000 in
theorem zc_X3_canRenameTo (l : Launch) (D : va_G) (ct : zCT) (h0 : Nat) (aE : Nat) (aT : Nat) (aP : Nat) (aK : Nat) (aN : Nat) (keys : Nat → Nat) (names : Nat → Nat) (cnt : Nat) (ids : Nat) (nm : Nat) (hc : cnt ≤ 40) (hk : ∀ j, j < 40 → keys j < 64000) (hn : ∀ j, j < 40 → names j < 1073741824) (hi : ids < 2000) (hm : nm < 1073741824) : zMet l yX3_canRenameTo wsX3_canRenameTo ({ frames := 1, cells := 0, slots := 0, locals := 22 } : Room) D ct [.ref h0, zi ((nm : Nat) : Int)] [zO h0 2 [.ref aE, .ref aT, .ref aP, zi ((ids : Nat) : Int)], zO aE 0 [.ref aK, .ref aN, zi ((cnt : Nat) : Int)], zAI ct aK 40 (zN keys), zAI ct aN 40 (zN names)] (fun _ : Unit => True) (fun _ => some (zi (zb (decide (ids < 1000 ∧ foF (nmP names nm) cnt = -1))))) (fun _ => [zO h0 2 [.ref aE, .ref aT, .ref aP, zi ((ids : Nat) : Int)], zO aE 0 [.ref aK, .ref aN, zi ((cnt : Nat) : Int)], zAI ct aK 40 (zN keys), zAI ct aN 40 (zN names)]) 0 0 := by
  refine zMet_z (cc := cX3_canRenameTo) (maxL := 2) (r := fun _ => zb (decide (ids < 1000 ∧ foF (nmP names nm) cnt = -1))) (by decide) rfl (Nat.le_of_ble_eq_true rfl) (fun _ _ => zb_n _) ?_
  intro p e s m below meth c A Q Z hnm hR
  refine z_eqs _ [(0, .ref h0), (1, zi ((nm : Nat) : Int))] _ rfl rfl rfl ?_
  refine z_aload_n Z dX3_canRenameTo_0 0 rfl ?_
  refine z_get Z dX3_canRenameTo_1 zin_X3_canRenameTo_X3 0 3 rfl rfl (by decide) zlk_X3_canRenameTo_29 rfl ?_
  refine z_sipush (v := 1000) Z dX3_canRenameTo_4 (by decide +kernel) ?_
  refine z_icmp_ge Z 26 dX3_canRenameTo_7 (by decide) (by omega) (by omega) (fun h7 => ?_) (fun h7 => ?_)
  · refine z_iconst (v := 0) Z dX3_canRenameTo_26 rfl ?_
    refine z_eqs [zO h0 2 [.ref aE, .ref aT, .ref aP, zi ((ids : Nat) : Int)], zO aE 0 [.ref aK, .ref aN, zi ((cnt : Nat) : Int)], zAI ct aK 40 (zN keys), zAI ct aN 40 (zN names)] _ [zi (zb (decide (ids < 1000 ∧ foF (nmP names nm) cnt = -1)))] (rfl) rfl (congrArg (fun z => [zi z]) (zb_np _ (by omega))) ?_
    exact hR _ _ () trivial dX3_canRenameTo_27
  · refine z_aload_n Z dX3_canRenameTo_10 0 rfl ?_
    refine z_get Z dX3_canRenameTo_11 zin_X3_canRenameTo_X3 0 0 rfl rfl (by decide) zlk_X3_canRenameTo_12 rfl ?_
    refine z_iload_n Z dX3_canRenameTo_14 1 rfl ?_
    refine z_callVu (rest := []) Z dX3_canRenameTo_15 0 1 _ _ rfl rfl rfl (zc_X0_placeOfName l D ct (aE) (aK) (aN) (keys) (names) (cnt) (nm) (by first | assumption | omega) (by first | assumption | omega) (by first | assumption | omega) (by first | assumption | omega)) (cwV 1 Z.1.2.2.2.2 gX3_canRenameTo_X0_placeOfName rfl rfl rfl (by decide +kernel) ⟨Nat.le_of_ble_eq_true rfl, Nat.le_of_ble_eq_true rfl⟩) rfl (Nat.le_of_ble_eq_true rfl) ⟨Nat.le_of_ble_eq_true rfl, Nat.le_of_ble_eq_true rfl⟩ [false, true, true, true] [zO h0 2 [.ref aE, .ref aT, .ref aP, zi ((ids : Nat) : Int)], zO aE 0 [.ref aK, .ref aN, zi ((cnt : Nat) : Int)], zAI ct aK 40 (zN keys), zAI ct aN 40 (zN names)] [zi (foF (nmP names nm) cnt)] rfl rfl rfl rfl ?_
    have hf9 := foF_rg (nmP names nm) cnt
    refine z_iconst (v := -1) Z dX3_canRenameTo_18 rfl ?_
    refine z_icmp_ne Z 26 dX3_canRenameTo_19 (by decide) (by omega) (by omega) (fun h19 => ?_) (fun h19 => ?_)
    · refine z_iconst (v := 0) Z dX3_canRenameTo_26 rfl ?_
      refine z_eqs [zO h0 2 [.ref aE, .ref aT, .ref aP, zi ((ids : Nat) : Int)], zO aE 0 [.ref aK, .ref aN, zi ((cnt : Nat) : Int)], zAI ct aK 40 (zN keys), zAI ct aN 40 (zN names)] _ [zi (zb (decide (ids < 1000 ∧ foF (nmP names nm) cnt = -1)))] (rfl) rfl (congrArg (fun z => [zi z]) (zb_np _ (by omega))) ?_
      exact hR _ _ () trivial dX3_canRenameTo_27
    · refine z_iconst (v := 1) Z dX3_canRenameTo_22 rfl ?_
      refine z_goto Z 27 dX3_canRenameTo_23 (by decide) ?_
      refine z_eqs [zO h0 2 [.ref aE, .ref aT, .ref aP, zi ((ids : Nat) : Int)], zO aE 0 [.ref aK, .ref aN, zi ((cnt : Nat) : Int)], zAI ct aK 40 (zN keys), zAI ct aN 40 (zN names)] _ [zi (zb (decide (ids < 1000 ∧ foF (nmP names nm) cnt = -1)))] (rfl) rfl (congrArg (fun z => [zi z]) (zb_p _ (by omega))) ?_
      exact hR _ _ () trivial dX3_canRenameTo_27
theorem zin_X3_canAdd_X3 : ∀ w ∈ wsX30, w ∈ wsX3_canAdd := by decide +kernel
theorem zlk_X3_canAdd_12 : Cond.fieldLink RX3 12 "HashedDirectory$State" "entries" "LHashedDirectory$Entries;" ∈ wsX3_canAdd := by decide +kernel
set_option maxHeartbeats 4000000 in
set_option maxRecDepth 100000 in
theorem zc_X3_canAdd (l : Launch) (D : va_G) (ct : zCT) (h0 : Nat) (aE : Nat) (aT : Nat) (aP : Nat) (aK : Nat) (aN : Nat) (keys : Nat → Nat) (names : Nat → Nat) (cnt : Nat) (ids : Nat) (nm : Nat) (hc : cnt ≤ 40) (hk : ∀ j, j < 40 → keys j < 64000) (hn : ∀ j, j < 40 → names j < 1073741824) (hi : ids < 2000) (hm : nm < 1073741824) : zMet l yX3_canAdd wsX3_canAdd ({ frames := 2, cells := 0, slots := 0, locals := 43 } : Room) D ct [.ref h0, zi ((nm : Nat) : Int)] [zO h0 2 [.ref aE, .ref aT, .ref aP, zi ((ids : Nat) : Int)], zO aE 0 [.ref aK, .ref aN, zi ((cnt : Nat) : Int)], zAI ct aK 40 (zN keys), zAI ct aN 40 (zN names)] (fun _ : Unit => True) (fun _ => some (zi (zb (decide (cnt < 40 ∧ (ids < 1000 ∧ foF (nmP names nm) cnt = -1)))))) (fun _ => [zO h0 2 [.ref aE, .ref aT, .ref aP, zi ((ids : Nat) : Int)], zO aE 0 [.ref aK, .ref aN, zi ((cnt : Nat) : Int)], zAI ct aK 40 (zN keys), zAI ct aN 40 (zN names)]) 0 0 := by
  refine zMet_z (cc := cX3_canAdd) (maxL := 2) (r := fun _ => zb (decide (cnt < 40 ∧ (ids < 1000 ∧ foF (nmP names nm) cnt = -1)))) (by decide) rfl (Nat.le_of_ble_eq_true rfl) (fun _ _ => zb_n _) ?_
  intro p e s m below meth c A Q Z hnm hR
  refine z_eqs _ [(0, .ref h0), (1, zi ((nm : Nat) : Int))] _ rfl rfl rfl ?_
  refine z_aload_n Z dX3_canAdd_0 0 rfl ?_
  refine z_get Z dX3_canAdd_1 zin_X3_canAdd_X3 0 0 rfl rfl (by decide) zlk_X3_canAdd_12 rfl ?_
  refine z_callVu (rest := []) Z dX3_canAdd_4 0 1 _ _ rfl rfl rfl (zc_X0_isFull l D ct (aE) (aK) (aN) (keys) (names) (cnt) (by first | assumption | omega) (by first | assumption | omega)) (cwV 0 Z.1.2.2.2.2 gX3_canAdd_X0_isFull rfl rfl rfl (by decide +kernel) ⟨Nat.le_of_ble_eq_true rfl, Nat.le_of_ble_eq_true rfl⟩) rfl (Nat.le_of_ble_eq_true rfl) ⟨Nat.le_of_ble_eq_true rfl, Nat.le_of_ble_eq_true rfl⟩ [false, true, true, true] [zO h0 2 [.ref aE, .ref aT, .ref aP, zi ((ids : Nat) : Int)], zO aE 0 [.ref aK, .ref aN, zi ((cnt : Nat) : Int)], zAI ct aK 40 (zN keys), zAI ct aN 40 (zN names)] [zi (zb (decide (40 ≤ cnt)))] rfl rfl rfl rfl ?_
  refine z_ifb_ne Z 22 dX3_canAdd_7 (by decide) (fun h7 => ?_) (fun h7 => ?_)
  · have h7 := of_decide_eq_true h7
    refine z_iconst (v := 0) Z dX3_canAdd_22 rfl ?_
    refine z_eqs [zO h0 2 [.ref aE, .ref aT, .ref aP, zi ((ids : Nat) : Int)], zO aE 0 [.ref aK, .ref aN, zi ((cnt : Nat) : Int)], zAI ct aK 40 (zN keys), zAI ct aN 40 (zN names)] _ [zi (zb (decide (cnt < 40 ∧ (ids < 1000 ∧ foF (nmP names nm) cnt = -1))))] (rfl) rfl (congrArg (fun z => [zi z]) (zb_np _ (by omega))) ?_
    exact hR _ _ () trivial dX3_canAdd_23
  · have h7 := of_decide_eq_false h7
    refine z_aload_n Z dX3_canAdd_10 0 rfl ?_
    refine z_iload_n Z dX3_canAdd_11 1 rfl ?_
    refine z_callVu (rest := []) Z dX3_canAdd_12 2 0 _ _ rfl rfl rfl (zc_X3_canRenameTo l D ct (h0) (aE) (aT) (aP) (aK) (aN) (keys) (names) (cnt) (ids) (nm) (by first | assumption | omega) (by first | assumption | omega) (by first | assumption | omega) (by first | assumption | omega) (by first | assumption | omega)) (cwV 1 Z.1.2.2.2.2 gX3_canAdd_X3_canRenameTo rfl rfl rfl (by decide +kernel) ⟨Nat.le_of_ble_eq_true rfl, Nat.le_of_ble_eq_true rfl⟩) rfl (Nat.le_of_ble_eq_true rfl) ⟨Nat.le_of_ble_eq_true rfl, Nat.le_of_ble_eq_true rfl⟩ [true, true, true, true] [zO h0 2 [.ref aE, .ref aT, .ref aP, zi ((ids : Nat) : Int)], zO aE 0 [.ref aK, .ref aN, zi ((cnt : Nat) : Int)], zAI ct aK 40 (zN keys), zAI ct aN 40 (zN names)] [zi (zb (decide (ids < 1000 ∧ foF (nmP names nm) cnt = -1)))] rfl rfl rfl rfl ?_
    refine z_ifb_eq Z 22 dX3_canAdd_15 (by decide) (fun h15 => ?_) (fun h15 => ?_)
    · have h15 := of_decide_eq_false h15
      refine z_iconst (v := 0) Z dX3_canAdd_22 rfl ?_
      refine z_eqs [zO h0 2 [.ref aE, .ref aT, .ref aP, zi ((ids : Nat) : Int)], zO aE 0 [.ref aK, .ref aN, zi ((cnt : Nat) : Int)], zAI ct aK 40 (zN keys), zAI ct aN 40 (zN names)] _ [zi (zb (decide (cnt < 40 ∧ (ids < 1000 ∧ foF (nmP names nm) cnt = -1))))] (rfl) rfl (congrArg (fun z => [zi z]) (zb_np _ (by omega))) ?_
      exact hR _ _ () trivial dX3_canAdd_23
    · have h15 := of_decide_eq_true h15
      refine z_iconst (v := 1) Z dX3_canAdd_18 rfl ?_
      refine z_goto Z 23 dX3_canAdd_19 (by decide) ?_
      refine z_eqs [zO h0 2 [.ref aE, .ref aT, .ref aP, zi ((ids : Nat) : Int)], zO aE 0 [.ref aK, .ref aN, zi ((cnt : Nat) : Int)], zAI ct aK 40 (zN keys), zAI ct aN 40 (zN names)] _ [zi (zb (decide (cnt < 40 ∧ (ids < 1000 ∧ foF (nmP names nm) cnt = -1))))] (rfl) rfl (congrArg (fun z => [zi z]) (zb_p _ (by omega))) ?_
      exact hR _ _ () trivial dX3_canAdd_23
theorem zin_X3_isOpen_X3 : ∀ w ∈ wsX30, w ∈ wsX3_isOpen := by decide +kernel
theorem zlk_X3_isOpen_25 : Cond.fieldLink RX3 25 "HashedDirectory$State" "positions" "[I" ∈ wsX3_isOpen := by decide +kernel
set_option maxHeartbeats 4000000 in
set_option maxRecDepth 100000 in
theorem zc_X3_isOpen (l : Launch) (D : va_G) (ct : zCT) (h0 : Nat) (aE : Nat) (aT : Nat) (aP : Nat) (pos : Nat → Int) (ids : Nat) (r : Nat) (hr : r < 4) (hp : ∀ j, j < 4 → -2 ≤ pos j ∧ pos j < 64000) : zMet l yX3_isOpen wsX3_isOpen ({ frames := 0, cells := 0, slots := 0, locals := 0 } : Room) D ct [.ref h0, zi ((r : Nat) : Int)] [zO h0 2 [.ref aE, .ref aT, .ref aP, zi ((ids : Nat) : Int)], zAI ct aP 4 pos] (fun _ : Unit => True) (fun _ => some (zi (zb (decide (pos r ≠ -2))))) (fun _ => [zO h0 2 [.ref aE, .ref aT, .ref aP, zi ((ids : Nat) : Int)], zAI ct aP 4 pos]) 0 0 := by
  refine zMet_z (cc := cX3_isOpen) (maxL := 2) (r := fun _ => zb (decide (pos r ≠ -2))) (by decide) rfl (Nat.le_of_ble_eq_true rfl) (fun _ _ => zb_n _) ?_
  intro p e s m below meth c A Q Z hnm hR
  refine z_eqs _ [(0, .ref h0), (1, zi ((r : Nat) : Int))] _ rfl rfl rfl ?_
  refine z_aload_n Z dX3_isOpen_0 0 rfl ?_
  refine z_get Z dX3_isOpen_1 zin_X3_isOpen_X3 0 2 rfl rfl (by decide) zlk_X3_isOpen_25 rfl ?_
  refine z_iload_n Z dX3_isOpen_4 1 rfl ?_
  refine z_iald Z dX3_isOpen_5 1 (r) rfl (rfl) ⟨by omega, by omega⟩ ?_
  have he1 := hp (r) (by omega)
  refine z_bipush (v := -2) Z dX3_isOpen_6 (by decide +kernel) ?_
  refine z_icmp_eq Z 15 dX3_isOpen_8 (by decide) (by omega) (by omega) (fun h8 => ?_) (fun h8 => ?_)
  · refine z_iconst (v := 0) Z dX3_isOpen_15 rfl ?_
    refine z_eqs [zO h0 2 [.ref aE, .ref aT, .ref aP, zi ((ids : Nat) : Int)], zAI ct aP 4 pos] _ [zi (zb (decide (pos r ≠ -2)))] (rfl) rfl (congrArg (fun z => [zi z]) (zb_np _ (by omega))) ?_
    exact hR _ _ () trivial dX3_isOpen_16
  · refine z_iconst (v := 1) Z dX3_isOpen_11 rfl ?_
    refine z_goto Z 16 dX3_isOpen_12 (by decide) ?_
    refine z_eqs [zO h0 2 [.ref aE, .ref aT, .ref aP, zi ((ids : Nat) : Int)], zAI ct aP 4 pos] _ [zi (zb (decide (pos r ≠ -2)))] (rfl) rfl (congrArg (fun z => [zi z]) (zb_p _ (by omega))) ?_
    exact hR _ _ () trivial dX3_isOpen_16
set_option maxHeartbeats 4000000 in
set_option maxRecDepth 100000 in
theorem zc_X3_openReaders (l : Launch) (D : va_G) (ct : zCT) (h0 : Nat) (aE : Nat) (aT : Nat) (aP : Nat) (pos : Nat → Int) (ids : Nat) (hp : ∀ j, j < 4 → -2 ≤ pos j ∧ pos j < 64000) : zMet l yX3_openReaders wsX3_openReaders ({ frames := 1, cells := 0, slots := 0, locals := 21 } : Room) D ct [.ref h0] [zO h0 2 [.ref aE, .ref aT, .ref aP, zi ((ids : Nat) : Int)], zAI ct aP 4 pos] (fun _ : Unit => True) (fun _ => some (zi (((orF pos 4 : Nat) : Int)))) (fun _ => [zO h0 2 [.ref aE, .ref aT, .ref aP, zi ((ids : Nat) : Int)], zAI ct aP 4 pos]) 0 0 := by
  refine zMet_i (cc := cX3_openReaders) (maxL := 3) (r := fun _ => ((orF pos 4 : Nat) : Int)) (by decide) rfl (Nat.le_of_ble_eq_true rfl) ?_
  intro p e s m below meth c A Q Z hnm hR
  refine z_eqs _ [(0, .ref h0)] _ rfl rfl rfl ?_
  refine z_iconst (v := 0) Z dX3_openReaders_0 rfl ?_
  refine z_istore_n Z dX3_openReaders_1 [(1, zi 0), (0, .ref h0)] (by decide) rfl ?_
  refine z_iconst (v := 0) Z dX3_openReaders_2 rfl ?_
  refine z_istore_n Z dX3_openReaders_3 [(2, zi 0), (1, zi 0), (0, .ref h0)] (by decide) rfl ?_
  refine z_lsub [2, 1, 0] [(0, .ref h0), (1, zi 0), (2, zi 0)] rfl ?_
  have LOOP4 : ∀ (N0 : Nat) (i : Nat) (x1 : Int) (x2 : Int), 5 - i < N0 → x1 = ((orF pos i : Nat) : Int) → x2 = ((i : Nat) : Int) → (i ≤ 4) → zW p l e ({ frames := 1, cells := 0, slots := 0, locals := 21 } : Room) s m ([.ref h0] : List Value).toArray below meth c D A 3 Q 0 0 [zO h0 2 [.ref aE, .ref aT, .ref aP, zi ((ids : Nat) : Int)], zAI ct aP 4 pos] [(0, .ref h0), (1, zi x1), (2, zi x2)] 4 [] := by
    intro N0
    induction N0 with
    | zero => intro i x1 x2 hm0; exact absurd hm0 (Nat.not_lt_zero _)
    | succ N0 ih0 =>
      intro i x1 x2 hm0 ex1 ex2 hi
      subst ex1
      subst ex2
      have hl9 := orF_le pos i
      refine z_iload_n Z dX3_openReaders_4 2 rfl ?_
      refine z_iconst (v := 4) Z dX3_openReaders_5 rfl ?_
      refine z_icmp_ge Z 26 dX3_openReaders_6 (by decide) (by omega) (by omega) (fun h6 => ?_) (fun h6 => ?_)
      · refine z_iload_n Z dX3_openReaders_26 1 rfl ?_
        refine z_eqs [zO h0 2 [.ref aE, .ref aT, .ref aP, zi ((ids : Nat) : Int)], zAI ct aP 4 pos] _ [zi ((orF pos 4 : Nat) : Int)] (rfl) rfl (congrArg (fun z => [zi z]) (by rw [show i = 4 from by omega])) ?_
        exact hR _ _ () trivial dX3_openReaders_27
      · refine z_aload_n Z dX3_openReaders_9 0 rfl ?_
        refine z_iload_n Z dX3_openReaders_10 2 rfl ?_
        refine z_callVu (rest := []) Z dX3_openReaders_11 2 0 _ _ rfl rfl rfl (zc_X3_isOpen l D ct (h0) (aE) (aT) (aP) (pos) (ids) (i) (by first | assumption | omega) (by first | assumption | omega)) (cwV 1 Z.1.2.2.2.2 gX3_openReaders_X3_isOpen rfl rfl rfl (by decide +kernel) ⟨Nat.le_of_ble_eq_true rfl, Nat.le_of_ble_eq_true rfl⟩) rfl (Nat.le_of_ble_eq_true rfl) ⟨Nat.le_of_ble_eq_true rfl, Nat.le_of_ble_eq_true rfl⟩ [true, true] [zO h0 2 [.ref aE, .ref aT, .ref aP, zi ((ids : Nat) : Int)], zAI ct aP 4 pos] [zi (zb (decide (pos i ≠ -2)))] rfl rfl rfl rfl ?_
        refine z_ifb_eq Z 20 dX3_openReaders_14 (by decide) (fun h14 => ?_) (fun h14 => ?_)
        · have h14 := of_decide_eq_false h14
          refine z_iinc (v := ((i + 1 : Nat) : Int)) Z dX3_openReaders_20 2 [(2, zi ((i + 1 : Nat) : Int)), (0, .ref h0), (1, zi ((orF pos i : Nat) : Int))] rfl (by omega) (by decide) rfl ?_
          refine z_goto Z 4 dX3_openReaders_23 (by decide) ?_
          refine z_lsub [1, 2, 0] [(0, .ref h0), (1, zi ((orF pos i : Nat) : Int)), (2, zi ((i + 1 : Nat) : Int))] rfl ?_
          exact ih0 (i + 1) _ _ (by omega) (by rw [show orF pos (i + 1) = orF pos i + (if pos i ≠ -2 then 1 else 0) from rfl]; split <;> omega) (by first | rfl | omega)  (by first | assumption | omega)
        · have h14 := of_decide_eq_true h14
          refine z_iinc (v := (((orF pos i) + 1 : Nat) : Int)) Z dX3_openReaders_17 1 [(1, zi (((orF pos i) + 1 : Nat) : Int)), (0, .ref h0), (2, zi ((i : Nat) : Int))] rfl (by omega) (by decide) rfl ?_
          refine z_iinc (v := ((i + 1 : Nat) : Int)) Z dX3_openReaders_20 2 [(2, zi ((i + 1 : Nat) : Int)), (1, zi (((orF pos i) + 1 : Nat) : Int)), (0, .ref h0)] rfl (by omega) (by decide) rfl ?_
          refine z_goto Z 4 dX3_openReaders_23 (by decide) ?_
          refine z_lsub [2, 1, 0] [(0, .ref h0), (1, zi (((orF pos i) + 1 : Nat) : Int)), (2, zi ((i + 1 : Nat) : Int))] rfl ?_
          exact ih0 (i + 1) _ _ (by omega) (by rw [show orF pos (i + 1) = orF pos i + (if pos i ≠ -2 then 1 else 0) from rfl]; split <;> omega) (by first | rfl | omega)  (by first | assumption | omega)
  exact LOOP4 (5 - 0 + 1) 0 _ _ (Nat.lt_succ_self _) (rfl) (by first | rfl | omega)  (by first | assumption | omega)
theorem zin_X3_nextPlace_X3 : ∀ w ∈ wsX30, w ∈ wsX3_nextPlace := by decide +kernel
theorem zlk_X3_nextPlace_12 : Cond.fieldLink RX3 12 "HashedDirectory$State" "entries" "LHashedDirectory$Entries;" ∈ wsX3_nextPlace := by decide +kernel
theorem zlk_X3_nextPlace_25 : Cond.fieldLink RX3 25 "HashedDirectory$State" "positions" "[I" ∈ wsX3_nextPlace := by decide +kernel
set_option maxHeartbeats 4000000 in
set_option maxRecDepth 100000 in
theorem zc_X3_nextPlace (l : Launch) (D : va_G) (ct : zCT) (h0 : Nat) (aE : Nat) (aT : Nat) (aP : Nat) (aK : Nat) (aN : Nat) (keys : Nat → Nat) (names : Nat → Nat) (pos : Nat → Int) (cnt : Nat) (ids : Nat) (r : Nat) (hc : cnt ≤ 40) (hk : ∀ j, j < 40 → keys j < 64000) (hr : r < 4) (hp : ∀ j, j < 4 → -2 ≤ pos j ∧ pos j < 64000) : zMet l yX3_nextPlace wsX3_nextPlace ({ frames := 1, cells := 0, slots := 0, locals := 22 } : Room) D ct [.ref h0, zi ((r : Nat) : Int)] [zO h0 2 [.ref aE, .ref aT, .ref aP, zi ((ids : Nat) : Int)], zO aE 0 [.ref aK, .ref aN, zi ((cnt : Nat) : Int)], zAI ct aK 40 (zN keys), zAI ct aN 40 (zN names), zAI ct aP 4 pos] (fun _ : Unit => True) (fun _ => some (zi (((paF keys cnt (pos r) : Nat) : Int)))) (fun _ => [zO h0 2 [.ref aE, .ref aT, .ref aP, zi ((ids : Nat) : Int)], zO aE 0 [.ref aK, .ref aN, zi ((cnt : Nat) : Int)], zAI ct aK 40 (zN keys), zAI ct aN 40 (zN names), zAI ct aP 4 pos]) 0 0 := by
  refine zMet_i (cc := cX3_nextPlace) (maxL := 2) (r := fun _ => ((paF keys cnt (pos r) : Nat) : Int)) (by decide) rfl (Nat.le_of_ble_eq_true rfl) ?_
  intro p e s m below meth c A Q Z hnm hR
  refine z_eqs _ [(0, .ref h0), (1, zi ((r : Nat) : Int))] _ rfl rfl rfl ?_
  refine z_aload_n Z dX3_nextPlace_0 0 rfl ?_
  refine z_get Z dX3_nextPlace_1 zin_X3_nextPlace_X3 0 0 rfl rfl (by decide) zlk_X3_nextPlace_12 rfl ?_
  refine z_aload_n Z dX3_nextPlace_4 0 rfl ?_
  refine z_get Z dX3_nextPlace_5 zin_X3_nextPlace_X3 0 2 rfl rfl (by decide) zlk_X3_nextPlace_25 rfl ?_
  refine z_iload_n Z dX3_nextPlace_8 1 rfl ?_
  refine z_iald Z dX3_nextPlace_9 4 (r) rfl (rfl) ⟨by omega, by omega⟩ ?_
  have he1 := hp (r) (by omega)
  refine z_callVu (rest := []) Z dX3_nextPlace_10 0 1 _ _ rfl rfl rfl (zc_X0_placeAfter l D ct (aE) (aK) (aN) (keys) (names) (cnt) ((pos r)) (by first | assumption | omega) (by first | assumption | omega) (by first | assumption | omega)) (cwV 1 Z.1.2.2.2.2 gX3_nextPlace_X0_placeAfter rfl rfl rfl (by decide +kernel) ⟨Nat.le_of_ble_eq_true rfl, Nat.le_of_ble_eq_true rfl⟩) rfl (Nat.le_of_ble_eq_true rfl) ⟨Nat.le_of_ble_eq_true rfl, Nat.le_of_ble_eq_true rfl⟩ [false, true, true, true, false] [zO h0 2 [.ref aE, .ref aT, .ref aP, zi ((ids : Nat) : Int)], zO aE 0 [.ref aK, .ref aN, zi ((cnt : Nat) : Int)], zAI ct aK 40 (zN keys), zAI ct aN 40 (zN names), zAI ct aP 4 pos] [zi ((paF keys cnt (pos r) : Nat) : Int)] rfl rfl rfl rfl ?_
  refine z_eqs [zO h0 2 [.ref aE, .ref aT, .ref aP, zi ((ids : Nat) : Int)], zO aE 0 [.ref aK, .ref aN, zi ((cnt : Nat) : Int)], zAI ct aK 40 (zN keys), zAI ct aN 40 (zN names), zAI ct aP 4 pos] _ [zi ((paF keys cnt (pos r) : Nat) : Int)] (rfl) rfl (rfl) ?_
  exact hR _ _ () trivial dX3_nextPlace_13
theorem zin_X3_endOfLeafAt_X3 : ∀ w ∈ wsX30, w ∈ wsX3_endOfLeafAt := by decide +kernel
theorem zlk_X3_endOfLeafAt_12 : Cond.fieldLink RX3 12 "HashedDirectory$State" "entries" "LHashedDirectory$Entries;" ∈ wsX3_endOfLeafAt := by decide +kernel
theorem zin_X3_endOfLeafAt_X0 : ∀ w ∈ wsX00, w ∈ wsX3_endOfLeafAt := by decide +kernel
theorem zlk_X3_endOfLeafAt_87 : Cond.fieldLink RX3 87 "HashedDirectory$Entries" "count" "I" ∈ wsX3_endOfLeafAt := by decide +kernel
theorem zlk_X3_endOfLeafAt_21 : Cond.fieldLink RX3 21 "HashedDirectory$State" "tree" "LHashedDirectory$Tree;" ∈ wsX3_endOfLeafAt := by decide +kernel
theorem zin_X3_endOfLeafAt_X5 : ∀ w ∈ wsX50, w ∈ wsX3_endOfLeafAt := by decide +kernel
theorem zlk_X3_endOfLeafAt_90 : Cond.fieldLink RX3 90 "HashedDirectory$Tree" "depths" "[I" ∈ wsX3_endOfLeafAt := by decide +kernel
set_option maxHeartbeats 4000000 in
set_option maxRecDepth 100000 in
theorem zc_X3_endOfLeafAt (l : Launch) (D : va_G) (ct : zCT) (h0 : Nat) (aE : Nat) (aT : Nat) (aP : Nat) (aK : Nat) (aN : Nat) (aD : Nat) (keys : Nat → Nat) (names : Nat → Nat) (dep : Nat → Nat) (cnt : Nat) (sc : Nat) (mg : Nat) (ids : Nat) (k : Nat) (hc : cnt ≤ 40) (hk : ∀ j, j < 40 → keys j < 64000) (hdp : ∀ j, j < 64 → dep j < 7) (hk9 : k ≤ cnt) : zMet l yX3_endOfLeafAt wsX3_endOfLeafAt ({ frames := 1, cells := 0, slots := 0, locals := 22 } : Room) D ct [.ref h0, zi ((k : Nat) : Int)] [zO h0 2 [.ref aE, .ref aT, .ref aP, zi ((ids : Nat) : Int)], zO aE 0 [.ref aK, .ref aN, zi ((cnt : Nat) : Int)], zAI ct aK 40 (zN keys), zAI ct aN 40 (zN names), zO aT 4 [.ref aD, zi ((sc : Nat) : Int), zi ((mg : Nat) : Int)], zAI ct aD 64 (zN dep)] (fun _ : Unit => True) (fun _ => some (zi (((if k < cnt then elF keys dep cnt k else k : Nat) : Int)))) (fun _ => [zO h0 2 [.ref aE, .ref aT, .ref aP, zi ((ids : Nat) : Int)], zO aE 0 [.ref aK, .ref aN, zi ((cnt : Nat) : Int)], zAI ct aK 40 (zN keys), zAI ct aN 40 (zN names), zO aT 4 [.ref aD, zi ((sc : Nat) : Int), zi ((mg : Nat) : Int)], zAI ct aD 64 (zN dep)]) 0 0 := by
  refine zMet_i (cc := cX3_endOfLeafAt) (maxL := 4) (r := fun _ => ((if k < cnt then elF keys dep cnt k else k : Nat) : Int)) (by decide) rfl (Nat.le_of_ble_eq_true rfl) ?_
  intro p e s m below meth c A Q Z hnm hR
  refine z_eqs _ [(0, .ref h0), (1, zi ((k : Nat) : Int))] _ rfl rfl rfl ?_
  refine z_iload_n Z dX3_endOfLeafAt_0 1 rfl ?_
  refine z_aload_n Z dX3_endOfLeafAt_1 0 rfl ?_
  refine z_get Z dX3_endOfLeafAt_2 zin_X3_endOfLeafAt_X3 0 0 rfl rfl (by decide) zlk_X3_endOfLeafAt_12 rfl ?_
  refine z_get Z dX3_endOfLeafAt_5 zin_X3_endOfLeafAt_X0 1 2 rfl rfl (by decide) zlk_X3_endOfLeafAt_87 rfl ?_
  refine z_icmp_lt Z 13 dX3_endOfLeafAt_8 (by decide) (by omega) (by omega) (fun h8 => ?_) (fun h8 => ?_)
  · have hk8 := hk k (by omega)
    refine z_aload_n Z dX3_endOfLeafAt_13 0 rfl ?_
    refine z_get Z dX3_endOfLeafAt_14 zin_X3_endOfLeafAt_X3 0 0 rfl rfl (by decide) zlk_X3_endOfLeafAt_12 rfl ?_
    refine z_iload_n Z dX3_endOfLeafAt_17 1 rfl ?_
    refine z_callVu (rest := []) Z dX3_endOfLeafAt_18 0 1 _ _ rfl rfl rfl (zc_X0_hashIn l D ct (aE) (aK) (aN) (keys) (names) (cnt) (k) (by first | assumption | omega) (by first | assumption | omega) (by first | assumption | omega)) (cwV 1 Z.1.2.2.2.2 gX3_endOfLeafAt_X0_hashIn rfl rfl rfl (by decide +kernel) ⟨Nat.le_of_ble_eq_true rfl, Nat.le_of_ble_eq_true rfl⟩) rfl (Nat.le_of_ble_eq_true rfl) ⟨Nat.le_of_ble_eq_true rfl, Nat.le_of_ble_eq_true rfl⟩ [false, true, true, true, false, false] [zO h0 2 [.ref aE, .ref aT, .ref aP, zi ((ids : Nat) : Int)], zO aE 0 [.ref aK, .ref aN, zi ((cnt : Nat) : Int)], zAI ct aK 40 (zN keys), zAI ct aN 40 (zN names), zO aT 4 [.ref aD, zi ((sc : Nat) : Int), zi ((mg : Nat) : Int)], zAI ct aD 64 (zN dep)] [zi ((keys k / 1000 : Nat) : Int)] rfl rfl rfl rfl ?_
    refine z_istore_n Z dX3_endOfLeafAt_21 [(2, zi ((keys k / 1000 : Nat) : Int)), (0, .ref h0), (1, zi ((k : Nat) : Int))] (by decide) rfl ?_
    refine z_iload_n Z dX3_endOfLeafAt_22 0 rfl ?_
    refine z_aload_n Z dX3_endOfLeafAt_23 1 rfl ?_
    refine z_get Z dX3_endOfLeafAt_24 zin_X3_endOfLeafAt_X3 0 1 rfl rfl (by decide) zlk_X3_endOfLeafAt_21 rfl ?_
    refine z_get Z dX3_endOfLeafAt_27 zin_X3_endOfLeafAt_X5 4 0 rfl rfl (by decide) zlk_X3_endOfLeafAt_90 rfl ?_
    refine z_iload_n Z dX3_endOfLeafAt_30 0 rfl ?_
    refine z_ialdN Z dX3_endOfLeafAt_31 5 (keys k / 1000) rfl (rfl) ⟨by omega, by omega⟩ ?_
    have he1 := hdp (keys k / 1000) (by omega)
    refine z_callSu (rest := []) Z dX3_endOfLeafAt_32 (zc_X5_lastHash l D ct (keys k / 1000) (dep (keys k / 1000)) (by first | assumption | omega) (by first | assumption | omega)) (va_cwS 2 Z.1.2.2.2.2 gX3_endOfLeafAt_X5_lastHash rfl rfl rfl (by decide +kernel) ⟨Nat.le_of_ble_eq_true rfl, Nat.le_of_ble_eq_true rfl⟩) rfl (Nat.le_of_ble_eq_true rfl) ⟨Nat.le_of_ble_eq_true rfl, Nat.le_of_ble_eq_true rfl⟩ [false, false, false, false, false, false] [zO h0 2 [.ref aE, .ref aT, .ref aP, zi ((ids : Nat) : Int)], zO aE 0 [.ref aK, .ref aN, zi ((cnt : Nat) : Int)], zAI ct aK 40 (zN keys), zAI ct aN 40 (zN names), zO aT 4 [.ref aD, zi ((sc : Nat) : Int), zi ((mg : Nat) : Int)], zAI ct aD 64 (zN dep)] [zi ((lhF (keys k / 1000) (dep (keys k / 1000)) : Nat) : Int)] rfl rfl rfl rfl ?_
    have hf9 := fh_le (h := keys k / 1000) (d := dep (keys k / 1000)) (by omega) (by omega)
    refine z_istore_n Z dX3_endOfLeafAt_35 [(3, zi ((lhF (keys k / 1000) (dep (keys k / 1000)) : Nat) : Int)), (2, zi ((keys k / 1000 : Nat) : Int)), (0, .ref h0), (1, zi ((k : Nat) : Int))] (by decide) rfl ?_
    refine z_aload_n Z dX3_endOfLeafAt_36 2 rfl ?_
    refine z_get Z dX3_endOfLeafAt_37 zin_X3_endOfLeafAt_X3 0 0 rfl rfl (by decide) zlk_X3_endOfLeafAt_12 rfl ?_
    refine z_iload_n Z dX3_endOfLeafAt_40 0 rfl ?_
    refine z_sipush (v := 1000) Z dX3_endOfLeafAt_41 (by decide +kernel) ?_
    refine z_imul Z dX3_endOfLeafAt_44 ?_
    refine z_top (y := (((lhF (keys k / 1000) (dep (keys k / 1000))) * 1000 : Nat) : Int)) (by omega) ?_
    refine z_sipush (v := 1000) Z dX3_endOfLeafAt_45 (by decide +kernel) ?_
    refine z_iadd Z dX3_endOfLeafAt_48 ?_
    refine z_top (y := ((((lhF (keys k / 1000) (dep (keys k / 1000))) * 1000) + 1000 : Nat) : Int)) (by omega) ?_
    refine z_iconst (v := 1) Z dX3_endOfLeafAt_49 rfl ?_
    refine z_isub Z dX3_endOfLeafAt_50 ?_
    refine z_top (y := ((lhF (keys k / 1000) (dep (keys k / 1000)) * 1000 + 999 : Nat) : Int)) (by omega) ?_
    refine z_callVu (rest := []) Z dX3_endOfLeafAt_51 0 1 _ _ rfl rfl rfl (zc_X0_placeAfter l D ct (aE) (aK) (aN) (keys) (names) (cnt) (((lhF (keys k / 1000) (dep (keys k / 1000)) * 1000 + 999 : Nat) : Int)) (by first | assumption | omega) (by first | assumption | omega) (by first | assumption | omega)) (cwV 1 Z.1.2.2.2.2 gX3_endOfLeafAt_X0_placeAfter rfl rfl rfl (by decide +kernel) ⟨Nat.le_of_ble_eq_true rfl, Nat.le_of_ble_eq_true rfl⟩) rfl (Nat.le_of_ble_eq_true rfl) ⟨Nat.le_of_ble_eq_true rfl, Nat.le_of_ble_eq_true rfl⟩ [false, true, true, true, false, false] [zO h0 2 [.ref aE, .ref aT, .ref aP, zi ((ids : Nat) : Int)], zO aE 0 [.ref aK, .ref aN, zi ((cnt : Nat) : Int)], zAI ct aK 40 (zN keys), zAI ct aN 40 (zN names), zO aT 4 [.ref aD, zi ((sc : Nat) : Int), zi ((mg : Nat) : Int)], zAI ct aD 64 (zN dep)] [zi ((paF keys cnt ((lhF (keys k / 1000) (dep (keys k / 1000)) * 1000 + 999 : Nat) : Int) : Nat) : Int)] rfl rfl rfl rfl ?_
    refine z_eqs [zO h0 2 [.ref aE, .ref aT, .ref aP, zi ((ids : Nat) : Int)], zO aE 0 [.ref aK, .ref aN, zi ((cnt : Nat) : Int)], zAI ct aK 40 (zN keys), zAI ct aN 40 (zN names), zO aT 4 [.ref aD, zi ((sc : Nat) : Int), zi ((mg : Nat) : Int)], zAI ct aD 64 (zN dep)] _ [zi ((if k < cnt then elF keys dep cnt k else k : Nat) : Int)] (rfl) rfl (congrArg (fun z => [zi z]) (by rw [if_pos (by omega)]; rfl)) ?_
    exact hR _ _ () trivial dX3_endOfLeafAt_54
  · refine z_iload_n Z dX3_endOfLeafAt_11 1 rfl ?_
    refine z_eqs [zO h0 2 [.ref aE, .ref aT, .ref aP, zi ((ids : Nat) : Int)], zO aE 0 [.ref aK, .ref aN, zi ((cnt : Nat) : Int)], zAI ct aK 40 (zN keys), zAI ct aN 40 (zN names), zO aT 4 [.ref aD, zi ((sc : Nat) : Int), zi ((mg : Nat) : Int)], zAI ct aD 64 (zN dep)] _ [zi ((if k < cnt then elF keys dep cnt k else k : Nat) : Int)] (rfl) rfl (congrArg (fun z => [zi z]) (by rw [if_neg (by omega)])) ?_
    exact hR _ _ () trivial dX3_endOfLeafAt_12
theorem zin_X3_makeEntry_X3 : ∀ w ∈ wsX30, w ∈ wsX3_makeEntry := by decide +kernel
theorem zlk_X3_makeEntry_29 : Cond.fieldLink RX3 29 "HashedDirectory$State" "idsGiven" "I" ∈ wsX3_makeEntry := by decide +kernel
theorem zlk_X3_makeEntry_12 : Cond.fieldLink RX3 12 "HashedDirectory$State" "entries" "LHashedDirectory$Entries;" ∈ wsX3_makeEntry := by decide +kernel
theorem zlk_X3_makeEntry_21 : Cond.fieldLink RX3 21 "HashedDirectory$State" "tree" "LHashedDirectory$Tree;" ∈ wsX3_makeEntry := by decide +kernel
set_option maxHeartbeats 4000000 in
set_option maxRecDepth 100000 in
theorem zc_X3_makeEntry (l : Launch) (D : va_G) (ct : zCT) (h0 : Nat) (aE : Nat) (aT : Nat) (aP : Nat) (aK : Nat) (aN : Nat) (aD : Nat) (keys : Nat → Nat) (names : Nat → Nat) (dep : Nat → Nat) (cnt : Nat) (sc : Nat) (mg : Nat) (ids : Nat) (nm : Nat) (hc : cnt < 40) (hk : ∀ j, j < 40 → keys j < 64000) (hdp : ∀ j, j < 64 → dep j < 7) (hi : ids < 1000) (hm : nm < 1073741824) : zMet l yX3_makeEntry wsX3_makeEntry ({ frames := 3, cells := 0, slots := 0, locals := 69 } : Room) D ct [.ref h0, zi ((nm : Nat) : Int)] [zO h0 2 [.ref aE, .ref aT, .ref aP, zi ((ids : Nat) : Int)], zO aE 0 [.ref aK, .ref aN, zi ((cnt : Nat) : Int)], zAI ct aK 40 (zN keys), zAI ct aN 40 (zN names), zO aT 4 [.ref aD, zi ((sc : Nat) : Int), zi ((mg : Nat) : Int)], zAI ct aD 64 (zN dep)] (fun _ : Unit => True) (fun _ => some (zi (((ids : Nat) : Int)))) (fun _ => [zO h0 2 [.ref aE, .ref aT, .ref aP, zi ((ids + 1 : Nat) : Int)], zO aE 0 [.ref aK, .ref aN, zi ((cnt + 1 : Nat) : Int)], zAI ct aK 40 (zN (mkK keys cnt nm ids)), zAI ct aN 40 (zN (mkN keys names cnt nm ids)), zO aT 4 [.ref aD, zi (((mkT keys dep cnt sc nm ids).2 : Nat) : Int), zi ((mg : Nat) : Int)], zAI ct aD 64 (zN ((mkT keys dep cnt sc nm ids).1))]) 0 0 := by
  refine zMet_i (cc := cX3_makeEntry) (maxL := 4) (r := fun _ => ((ids : Nat) : Int)) (by decide) rfl (Nat.le_of_ble_eq_true rfl) ?_
  intro p e s m below meth c A Q Z hnm hR
  refine z_eqs _ [(0, .ref h0), (1, zi ((nm : Nat) : Int))] _ rfl rfl rfl ?_
  have hh9 := hsF_lt nm
  refine z_aload_n Z dX3_makeEntry_0 0 rfl ?_
  refine z_get Z dX3_makeEntry_1 zin_X3_makeEntry_X3 0 3 rfl rfl (by decide) zlk_X3_makeEntry_29 rfl ?_
  refine z_istore_n Z dX3_makeEntry_4 [(2, zi ((ids : Nat) : Int)), (0, .ref h0), (1, zi ((nm : Nat) : Int))] (by decide) rfl ?_
  refine z_iload_n Z dX3_makeEntry_5 2 rfl ?_
  refine z_callSu (rest := []) Z dX3_makeEntry_6 (zc_X2_hash l D ct (nm) (by first | assumption | omega)) (va_cwS 1 Z.1.2.2.2.2 gX3_makeEntry_X2_hash rfl rfl rfl (by decide +kernel) ⟨Nat.le_of_ble_eq_true rfl, Nat.le_of_ble_eq_true rfl⟩) rfl (Nat.le_of_ble_eq_true rfl) ⟨Nat.le_of_ble_eq_true rfl, Nat.le_of_ble_eq_true rfl⟩ [false, false, false, false, false, false] [zO h0 2 [.ref aE, .ref aT, .ref aP, zi ((ids : Nat) : Int)], zO aE 0 [.ref aK, .ref aN, zi ((cnt : Nat) : Int)], zAI ct aK 40 (zN keys), zAI ct aN 40 (zN names), zO aT 4 [.ref aD, zi ((sc : Nat) : Int), zi ((mg : Nat) : Int)], zAI ct aD 64 (zN dep)] [zi ((hsF nm : Nat) : Int)] rfl rfl rfl rfl ?_
  refine z_istore_n Z dX3_makeEntry_9 [(3, zi ((hsF nm : Nat) : Int)), (2, zi ((ids : Nat) : Int)), (0, .ref h0), (1, zi ((nm : Nat) : Int))] (by decide) rfl ?_
  refine z_aload_n Z dX3_makeEntry_10 2 rfl ?_
  refine z_dup Z dX3_makeEntry_11 rfl ?_
  refine z_get Z dX3_makeEntry_12 zin_X3_makeEntry_X3 0 3 rfl rfl (by decide) zlk_X3_makeEntry_29 rfl ?_
  refine z_iconst (v := 1) Z dX3_makeEntry_15 rfl ?_
  refine z_iadd Z dX3_makeEntry_16 ?_
  refine z_top (y := ((ids + 1 : Nat) : Int)) (by omega) ?_
  refine z_put (ty := .int) Z dX3_makeEntry_17 zin_X3_makeEntry_X3 tyX3 tyX3_ok nmX3 0 3 [zO h0 2 [.ref aE, .ref aT, .ref aP, zi ((ids + 1 : Nat) : Int)], zO aE 0 [.ref aK, .ref aN, zi ((cnt : Nat) : Int)], zAI ct aK 40 (zN keys), zAI ct aN 40 (zN names), zO aT 4 [.ref aD, zi ((sc : Nat) : Int), zi ((mg : Nat) : Int)], zAI ct aD 64 (zN dep)] rfl rfl (by decide) zlk_X3_makeEntry_29 rfl (by decide +kernel) rfl rfl (Nat.le_of_ble_eq_true rfl) rfl ?_
  refine z_aload_n Z dX3_makeEntry_20 2 rfl ?_
  refine z_get Z dX3_makeEntry_21 zin_X3_makeEntry_X3 0 0 rfl rfl (by decide) zlk_X3_makeEntry_12 rfl ?_
  refine z_iload_n Z dX3_makeEntry_24 0 rfl ?_
  refine z_sipush (v := 1000) Z dX3_makeEntry_25 (by decide +kernel) ?_
  refine z_imul Z dX3_makeEntry_28 ?_
  refine z_top (y := (((hsF nm) * 1000 : Nat) : Int)) (by omega) ?_
  refine z_iload_n Z dX3_makeEntry_29 1 rfl ?_
  refine z_iadd Z dX3_makeEntry_30 ?_
  refine z_top (y := ((((hsF nm) * 1000) + ids : Nat) : Int)) (by omega) ?_
  refine z_iload_n Z dX3_makeEntry_31 3 rfl ?_
  refine z_callVu (rest := []) Z dX3_makeEntry_32 0 1 _ _ rfl rfl rfl (zc_X0_insert l D ct (aE) (aK) (aN) (keys) (names) (cnt) (((hsF nm) * 1000) + ids) (nm) (by first | assumption | omega) (by first | assumption | omega) (by first | assumption | omega)) (cwV 2 Z.1.2.2.2.2 gX3_makeEntry_X0_insert rfl rfl rfl (by decide +kernel) ⟨Nat.le_of_ble_eq_true rfl, Nat.le_of_ble_eq_true rfl⟩) rfl (Nat.le_of_ble_eq_true rfl) ⟨Nat.le_of_ble_eq_true rfl, Nat.le_of_ble_eq_true rfl⟩ [false, true, true, true, false, false] [zO h0 2 [.ref aE, .ref aT, .ref aP, zi ((ids + 1 : Nat) : Int)], zO aE 0 [.ref aK, .ref aN, zi ((cnt + 1 : Nat) : Int)], zAI ct aK 40 (zN (inF keys (paF keys cnt (((((hsF nm) * 1000) + ids) : Nat) : Int)) cnt (((hsF nm) * 1000) + ids))), zAI ct aN 40 (zN (inF names (paF keys cnt (((((hsF nm) * 1000) + ids) : Nat) : Int)) cnt nm)), zO aT 4 [.ref aD, zi ((sc : Nat) : Int), zi ((mg : Nat) : Int)], zAI ct aD 64 (zN dep)] [] rfl rfl rfl rfl ?_
  refine z_aload_n Z dX3_makeEntry_35 2 rfl ?_
  refine z_get Z dX3_makeEntry_36 zin_X3_makeEntry_X3 0 1 rfl rfl (by decide) zlk_X3_makeEntry_21 rfl ?_
  refine z_iload_n Z dX3_makeEntry_39 0 rfl ?_
  refine z_aload_n Z dX3_makeEntry_40 2 rfl ?_
  refine z_get Z dX3_makeEntry_41 zin_X3_makeEntry_X3 0 0 rfl rfl (by decide) zlk_X3_makeEntry_12 rfl ?_
  refine z_callVu (rest := []) Z dX3_makeEntry_44 4 4 _ _ rfl rfl rfl (zc_X5_splitFrom l D ct (aT) (aD) (dep) (sc) (mg) (aE) (aK) (aN) (inF keys (paF keys cnt (((((hsF nm) * 1000) + ids) : Nat) : Int)) cnt (((hsF nm) * 1000) + ids)) (inF names (paF keys cnt (((((hsF nm) * 1000) + ids) : Nat) : Int)) cnt nm) (cnt + 1) (hsF nm) (by omega) (inF_lt hk hc (by omega)) (hdp) (hh9)) (cwV 2 Z.1.2.2.2.2 gX3_makeEntry_X5_splitFrom rfl rfl rfl (by decide +kernel) ⟨Nat.le_of_ble_eq_true rfl, Nat.le_of_ble_eq_true rfl⟩) rfl (Nat.le_of_ble_eq_true rfl) ⟨Nat.le_of_ble_eq_true rfl, Nat.le_of_ble_eq_true rfl⟩ [false, true, true, true, true, true] [zO h0 2 [.ref aE, .ref aT, .ref aP, zi ((ids + 1 : Nat) : Int)], zO aE 0 [.ref aK, .ref aN, zi (((cnt + 1) : Nat) : Int)], zAI ct aK 40 (zN (inF keys (paF keys cnt (((((hsF nm) * 1000) + ids) : Nat) : Int)) cnt (((hsF nm) * 1000) + ids))), zAI ct aN 40 (zN (inF names (paF keys cnt (((((hsF nm) * 1000) + ids) : Nat) : Int)) cnt nm)), zO aT 4 [.ref aD, zi (((spF (bgS (inF keys (paF keys cnt (((((hsF nm) * 1000) + ids) : Nat) : Int)) cnt (((hsF nm) * 1000) + ids)) (cnt + 1) (hsF nm)) (hsF nm) (6 - dep (hsF nm)) (dep (hsF nm)) (dep, sc)).2 : Nat) : Int), zi ((mg : Nat) : Int)], zAI ct aD 64 (zN ((spF (bgS (inF keys (paF keys cnt (((((hsF nm) * 1000) + ids) : Nat) : Int)) cnt (((hsF nm) * 1000) + ids)) (cnt + 1) (hsF nm)) (hsF nm) (6 - dep (hsF nm)) (dep (hsF nm)) (dep, sc)).1))] [] rfl rfl rfl rfl ?_
  refine z_iload_n Z dX3_makeEntry_47 1 rfl ?_
  refine z_eqs [zO h0 2 [.ref aE, .ref aT, .ref aP, zi ((ids + 1 : Nat) : Int)], zO aE 0 [.ref aK, .ref aN, zi ((cnt + 1 : Nat) : Int)], zAI ct aK 40 (zN (mkK keys cnt nm ids)), zAI ct aN 40 (zN (mkN keys names cnt nm ids)), zO aT 4 [.ref aD, zi (((mkT keys dep cnt sc nm ids).2 : Nat) : Int), zi ((mg : Nat) : Int)], zAI ct aD 64 (zN ((mkT keys dep cnt sc nm ids).1))] _ [zi ((ids : Nat) : Int)] (rfl) rfl (rfl) ?_
  exact hR _ _ () trivial dX3_makeEntry_48
theorem zin_X3_dropEntry_X3 : ∀ w ∈ wsX30, w ∈ wsX3_dropEntry := by decide +kernel
theorem zlk_X3_dropEntry_12 : Cond.fieldLink RX3 12 "HashedDirectory$State" "entries" "LHashedDirectory$Entries;" ∈ wsX3_dropEntry := by decide +kernel
theorem zlk_X3_dropEntry_21 : Cond.fieldLink RX3 21 "HashedDirectory$State" "tree" "LHashedDirectory$Tree;" ∈ wsX3_dropEntry := by decide +kernel
set_option maxHeartbeats 4000000 in
set_option maxRecDepth 100000 in
theorem zc_X3_dropEntry (l : Launch) (D : va_G) (ct : zCT) (h0 : Nat) (aE : Nat) (aT : Nat) (aP : Nat) (aK : Nat) (aN : Nat) (aD : Nat) (keys : Nat → Nat) (names : Nat → Nat) (dep : Nat → Nat) (cnt : Nat) (sc : Nat) (mg : Nat) (ids : Nat) (k : Nat) (hc : cnt ≤ 40) (hk : ∀ j, j < 40 → keys j < 64000) (hdp : ∀ j, j < 64 → dep j < 7) (hk9 : k < cnt) : zMet l yX3_dropEntry wsX3_dropEntry ({ frames := 3, cells := 0, slots := 0, locals := 70 } : Room) D ct [.ref h0, zi ((k : Nat) : Int)] [zO h0 2 [.ref aE, .ref aT, .ref aP, zi ((ids : Nat) : Int)], zO aE 0 [.ref aK, .ref aN, zi ((cnt : Nat) : Int)], zAI ct aK 40 (zN keys), zAI ct aN 40 (zN names), zO aT 4 [.ref aD, zi ((sc : Nat) : Int), zi ((mg : Nat) : Int)], zAI ct aD 64 (zN dep)] (fun _ : Unit => True) (fun _ => none) (fun _ => [zO h0 2 [.ref aE, .ref aT, .ref aP, zi ((ids : Nat) : Int)], zO aE 0 [.ref aK, .ref aN, zi ((cnt - 1 : Nat) : Int)], zAI ct aK 40 (zN (shL keys k (cnt - 1))), zAI ct aN 40 (zN (shL names k (cnt - 1))), zO aT 4 [.ref aD, zi ((sc : Nat) : Int), zi (((rmT keys dep cnt mg k).2 : Nat) : Int)], zAI ct aD 64 (zN ((rmT keys dep cnt mg k).1))]) 0 0 := by
  refine zMet_v (cc := cX3_dropEntry) (maxL := 3) (by decide) rfl (Nat.le_of_ble_eq_true rfl) ?_
  intro p e s m below meth c A Q Z hnm hR
  refine z_eqs _ [(0, .ref h0), (1, zi ((k : Nat) : Int))] _ rfl rfl rfl ?_
  have hk8 := hk k (by omega)
  refine z_aload_n Z dX3_dropEntry_0 0 rfl ?_
  refine z_get Z dX3_dropEntry_1 zin_X3_dropEntry_X3 0 0 rfl rfl (by decide) zlk_X3_dropEntry_12 rfl ?_
  refine z_iload_n Z dX3_dropEntry_4 1 rfl ?_
  refine z_callVu (rest := []) Z dX3_dropEntry_5 0 1 _ _ rfl rfl rfl (zc_X0_hashIn l D ct (aE) (aK) (aN) (keys) (names) (cnt) (k) (by first | assumption | omega) (by first | assumption | omega) (by first | assumption | omega)) (cwV 1 Z.1.2.2.2.2 gX3_dropEntry_X0_hashIn rfl rfl rfl (by decide +kernel) ⟨Nat.le_of_ble_eq_true rfl, Nat.le_of_ble_eq_true rfl⟩) rfl (Nat.le_of_ble_eq_true rfl) ⟨Nat.le_of_ble_eq_true rfl, Nat.le_of_ble_eq_true rfl⟩ [false, true, true, true, false, false] [zO h0 2 [.ref aE, .ref aT, .ref aP, zi ((ids : Nat) : Int)], zO aE 0 [.ref aK, .ref aN, zi ((cnt : Nat) : Int)], zAI ct aK 40 (zN keys), zAI ct aN 40 (zN names), zO aT 4 [.ref aD, zi ((sc : Nat) : Int), zi ((mg : Nat) : Int)], zAI ct aD 64 (zN dep)] [zi ((keys k / 1000 : Nat) : Int)] rfl rfl rfl rfl ?_
  refine z_istore_n Z dX3_dropEntry_8 [(2, zi ((keys k / 1000 : Nat) : Int)), (0, .ref h0), (1, zi ((k : Nat) : Int))] (by decide) rfl ?_
  refine z_aload_n Z dX3_dropEntry_9 1 rfl ?_
  refine z_get Z dX3_dropEntry_10 zin_X3_dropEntry_X3 0 0 rfl rfl (by decide) zlk_X3_dropEntry_12 rfl ?_
  refine z_iload_n Z dX3_dropEntry_13 2 rfl ?_
  refine z_callVu (rest := []) Z dX3_dropEntry_14 0 1 _ _ rfl rfl rfl (zc_X0_takeOut l D ct (aE) (aK) (aN) (keys) (names) (cnt) (k) (by first | assumption | omega) (by first | assumption | omega) (by first | assumption | omega)) (cwV 1 Z.1.2.2.2.2 gX3_dropEntry_X0_takeOut rfl rfl rfl (by decide +kernel) ⟨Nat.le_of_ble_eq_true rfl, Nat.le_of_ble_eq_true rfl⟩) rfl (Nat.le_of_ble_eq_true rfl) ⟨Nat.le_of_ble_eq_true rfl, Nat.le_of_ble_eq_true rfl⟩ [false, true, true, true, false, false] [zO h0 2 [.ref aE, .ref aT, .ref aP, zi ((ids : Nat) : Int)], zO aE 0 [.ref aK, .ref aN, zi ((cnt - 1 : Nat) : Int)], zAI ct aK 40 (zN (shL keys k (cnt - 1))), zAI ct aN 40 (zN (shL names k (cnt - 1))), zO aT 4 [.ref aD, zi ((sc : Nat) : Int), zi ((mg : Nat) : Int)], zAI ct aD 64 (zN dep)] [] rfl rfl rfl rfl ?_
  refine z_aload_n Z dX3_dropEntry_17 1 rfl ?_
  refine z_get Z dX3_dropEntry_18 zin_X3_dropEntry_X3 0 1 rfl rfl (by decide) zlk_X3_dropEntry_21 rfl ?_
  refine z_iload_n Z dX3_dropEntry_21 0 rfl ?_
  refine z_aload_n Z dX3_dropEntry_22 1 rfl ?_
  refine z_get Z dX3_dropEntry_23 zin_X3_dropEntry_X3 0 0 rfl rfl (by decide) zlk_X3_dropEntry_12 rfl ?_
  refine z_callVu (rest := []) Z dX3_dropEntry_26 4 4 _ _ rfl rfl rfl (zc_X5_mergeFrom l D ct (aT) (aD) (dep) (sc) (mg) (aE) (aK) (aN) (shL keys k (cnt - 1)) (shL names k (cnt - 1)) (cnt - 1) (keys k / 1000) (by omega) (shL_lt hk hc) (hdp) (by omega)) (cwV 2 Z.1.2.2.2.2 gX3_dropEntry_X5_mergeFrom rfl rfl rfl (by decide +kernel) ⟨Nat.le_of_ble_eq_true rfl, Nat.le_of_ble_eq_true rfl⟩) rfl (Nat.le_of_ble_eq_true rfl) ⟨Nat.le_of_ble_eq_true rfl, Nat.le_of_ble_eq_true rfl⟩ [false, true, true, true, true, true] [zO h0 2 [.ref aE, .ref aT, .ref aP, zi ((ids : Nat) : Int)], zO aE 0 [.ref aK, .ref aN, zi (((cnt - 1) : Nat) : Int)], zAI ct aK 40 (zN (shL keys k (cnt - 1))), zAI ct aN 40 (zN (shL names k (cnt - 1))), zO aT 4 [.ref aD, zi ((sc : Nat) : Int), zi (((mgF (smF (shL keys k (cnt - 1)) (cnt - 1) (keys k / 1000)) (keys k / 1000) (dep (keys k / 1000)) (dep, mg)).2 : Nat) : Int)], zAI ct aD 64 (zN ((mgF (smF (shL keys k (cnt - 1)) (cnt - 1) (keys k / 1000)) (keys k / 1000) (dep (keys k / 1000)) (dep, mg)).1))] [] rfl rfl rfl rfl ?_
  refine z_eqs [zO h0 2 [.ref aE, .ref aT, .ref aP, zi ((ids : Nat) : Int)], zO aE 0 [.ref aK, .ref aN, zi ((cnt - 1 : Nat) : Int)], zAI ct aK 40 (zN (shL keys k (cnt - 1))), zAI ct aN 40 (zN (shL names k (cnt - 1))), zO aT 4 [.ref aD, zi ((sc : Nat) : Int), zi (((rmT keys dep cnt mg k).2 : Nat) : Int)], zAI ct aD 64 (zN ((rmT keys dep cnt mg k).1))] _ [] (rfl) rfl (rfl) ?_
  exact hR _ _ () trivial dX3_dropEntry_29
