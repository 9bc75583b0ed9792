/-! plain numbers for the directory's calls -/
theorem foF_ge (p : Nat → Bool) (n : Nat) : foF p n ≠ -1 → 0 ≤ foF p n ∧ foF p n < (n : Int) := by
  unfold foF
  split
  · intro _; omega
  · intro h; exact absurd rfl h
theorem zin_X6_nameInText_X6 : ∀ w ∈ wsX60, w ∈ wsX6_nameInText := by decide +kernel
theorem zlk_X6_nameInText_34 : Cond.fieldLink RX6 34 "HashedDirectory" "text" "LHashedDirectory$Text;" ∈ wsX6_nameInText := by decide +kernel
theorem zin_X6_nameInText_X4 : ∀ w ∈ wsX40, w ∈ wsX6_nameInText := by decide +kernel
theorem zlk_X6_nameInText_117 : Cond.fieldLink RX6 117 "HashedDirectory$Text" "length" "I" ∈ wsX6_nameInText := by decide +kernel
set_option maxHeartbeats 4000000 in
set_option maxRecDepth 100000 in
theorem zc_X6_nameInText (l : Launch) (D : va_G) (ct : zCT) (hd : Nat) (tO : Nat) (aC : Nat) (aSl : Nat) (aFi : Nat) (h0 : Nat) (hh : Nat) (tx : Nat → Nat) (len : Nat) (hl : len ≤ 80) (ht : ∀ j, j < 80 → tx j < 128) (hnm : nbF tx 0 len ≠ 0) : zMet l yX6_nameInText wsX6_nameInText ({ frames := 3, cells := 0, slots := 0, locals := 66 } : Room) D ct [.ref hd] [zO hd 5 [.ref h0, .ref hh, .ref aSl, .ref aFi, .ref tO], zO tO 3 [.ref aC, zi ((len : Nat) : Int)], zAI ct aC 80 (zN tx)] (fun _ : Unit => True) (fun _ => some (zi (((nbF tx 0 len : Nat) : Int)))) (fun _ => [zO hd 5 [.ref h0, .ref hh, .ref aSl, .ref aFi, .ref tO], zO tO 3 [.ref aC, zi ((len : Nat) : Int)], zAI ct aC 80 (zN tx)]) 0 0 := by
  refine zMet_i (cc := cX6_nameInText) (maxL := 2) (r := fun _ => ((nbF tx 0 len : Nat) : Int)) (by decide) rfl (Nat.le_of_ble_eq_true rfl) ?_
  intro p e s m below meth c A Q Z hnm hR
  refine z_eqs _ [(0, .ref hd)] _ rfl rfl rfl ?_
  have hnb := nbF_lt tx 0 len
  refine z_aload_n Z dX6_nameInText_0 0 rfl ?_
  refine z_get Z dX6_nameInText_1 zin_X6_nameInText_X6 0 4 rfl rfl (by decide) zlk_X6_nameInText_34 rfl ?_
  refine z_iconst (v := 0) Z dX6_nameInText_4 rfl ?_
  refine z_aload_n Z dX6_nameInText_5 0 rfl ?_
  refine z_get Z dX6_nameInText_6 zin_X6_nameInText_X6 0 4 rfl rfl (by decide) zlk_X6_nameInText_34 rfl ?_
  refine z_get Z dX6_nameInText_9 zin_X6_nameInText_X4 1 1 rfl rfl (by decide) zlk_X6_nameInText_117 rfl ?_
  refine z_callVu (rest := []) Z dX6_nameInText_12 3 1 _ _ rfl rfl rfl (zc_X4_nameBetween l D ct (tO) (aC) (tx) (len) (0) (len) (by first | assumption | omega) (by first | assumption | omega) (by first | assumption | omega) (by first | assumption | omega)) (cwV 2 Z.1.2.2.2.2 gX6_nameInText_X4_nameBetween rfl rfl rfl (by decide +kernel) ⟨Nat.le_of_ble_eq_true rfl, Nat.le_of_ble_eq_true rfl⟩) rfl (Nat.le_of_ble_eq_true rfl) ⟨Nat.le_of_ble_eq_true rfl, Nat.le_of_ble_eq_true rfl⟩ [false, true, true] [zO hd 5 [.ref h0, .ref hh, .ref aSl, .ref aFi, .ref tO], zO tO 3 [.ref aC, zi ((len : Nat) : Int)], zAI ct aC 80 (zN tx)] [zi ((nbF tx 0 len : Nat) : Int)] rfl rfl rfl rfl ?_
  refine z_istore_n Z dX6_nameInText_15 [(1, zi ((nbF tx 0 len : Nat) : Int)), (0, .ref hd)] (by decide) rfl ?_
  refine z_iload_n Z dX6_nameInText_16 0 rfl ?_
  refine z_if_ne Z 30 dX6_nameInText_17 (by decide) (by omega) (fun h17 => ?_) (fun h17 => ?_)
  · refine z_iload_n Z dX6_nameInText_30 0 rfl ?_
    refine z_eqs [zO hd 5 [.ref h0, .ref hh, .ref aSl, .ref aFi, .ref tO], zO tO 3 [.ref aC, zi ((len : Nat) : Int)], zAI ct aC 80 (zN tx)] _ [zi ((nbF tx 0 len : Nat) : Int)] (rfl) rfl (rfl) ?_
    exact hR _ _ () trivial dX6_nameInText_31
  · exfalso; first | contradiction | omega
theorem zin_X6_placeOfEntry_X6 : ∀ w ∈ wsX60, w ∈ wsX6_placeOfEntry := by decide +kernel
theorem zlk_X6_placeOfEntry_12 : Cond.fieldLink RX6 12 "HashedDirectory" "state" "LHashedDirectory$State;" ∈ wsX6_placeOfEntry := by decide +kernel
theorem zin_X6_placeOfEntry_X3 : ∀ w ∈ wsX30, w ∈ wsX6_placeOfEntry := by decide +kernel
theorem zlk_X6_placeOfEntry_63 : Cond.fieldLink RX6 63 "HashedDirectory$State" "entries" "LHashedDirectory$Entries;" ∈ wsX6_placeOfEntry := by decide +kernel
set_option maxHeartbeats 4000000 in
set_option maxRecDepth 100000 in
theorem zc_X6_placeOfEntry (l : Launch) (D : va_G) (ct : zCT) (hd : Nat) (tO : Nat) (aSl : Nat) (aFi : Nat) (h0 : Nat) (aE : Nat) (aT : Nat) (aP : Nat) (aK : Nat) (aN : Nat) (keys : Nat → Nat) (names : Nat → Nat) (cnt : Nat) (ids : Nat) (hh : Nat) (id : Int) (hc40 : cnt ≤ 40) (hk : ∀ j, j < 40 → keys j < 64000) (hid : -2147483648 ≤ id ∧ id < 2147483648) (hne : foF (idP keys id) cnt ≠ -1) : zMet l yX6_placeOfEntry wsX6_placeOfEntry ({ frames := 2, cells := 0, slots := 0, locals := 43 } : Room) D ct [.ref hd, zi id] [zO hd 5 [.ref h0, .ref hh, .ref aSl, .ref aFi, .ref tO], zO h0 2 [.ref aE, .ref aT, .ref aP, zi ((ids : Nat) : Int)], zO aE 0 [.ref aK, .ref aN, zi ((cnt : Nat) : Int)], zAI ct aK 40 (zN keys), zAI ct aN 40 (zN names)] (fun _ : Unit => True) (fun _ => some (zi ((((foF (idP keys id) cnt).toNat : Nat) : Int)))) (fun _ => [zO hd 5 [.ref h0, .ref hh, .ref aSl, .ref aFi, .ref tO], zO h0 2 [.ref aE, .ref aT, .ref aP, zi ((ids : Nat) : Int)], zO aE 0 [.ref aK, .ref aN, zi ((cnt : Nat) : Int)], zAI ct aK 40 (zN keys), zAI ct aN 40 (zN names)]) 0 0 := by
  refine zMet_i (cc := cX6_placeOfEntry) (maxL := 3) (r := fun _ => (((foF (idP keys id) cnt).toNat : Nat) : Int)) (by decide) rfl (Nat.le_of_ble_eq_true rfl) ?_
  intro p e s m below meth c A Q Z hnm hR
  refine z_eqs _ [(0, .ref hd), (1, zi id)] _ rfl rfl rfl ?_
  refine z_aload_n Z dX6_placeOfEntry_0 0 rfl ?_
  refine z_get Z dX6_placeOfEntry_1 zin_X6_placeOfEntry_X6 0 0 rfl rfl (by decide) zlk_X6_placeOfEntry_12 rfl ?_
  refine z_get Z dX6_placeOfEntry_4 zin_X6_placeOfEntry_X3 1 0 rfl rfl (by decide) zlk_X6_placeOfEntry_63 rfl ?_
  refine z_iload_n Z dX6_placeOfEntry_7 1 rfl ?_
  refine z_callVu (rest := []) Z dX6_placeOfEntry_8 0 2 _ _ rfl rfl rfl (zc_X0_placeOfId l D ct (aE) (aK) (aN) (keys) (names) (cnt) (id) (by first | assumption | omega) (by first | assumption | omega) (by first | assumption | omega)) (cwV 1 Z.1.2.2.2.2 gX6_placeOfEntry_X0_placeOfId rfl rfl rfl (by decide +kernel) ⟨Nat.le_of_ble_eq_true rfl, Nat.le_of_ble_eq_true rfl⟩) rfl (Nat.le_of_ble_eq_true rfl) ⟨Nat.le_of_ble_eq_true rfl, Nat.le_of_ble_eq_true rfl⟩ [false, false, true, true, true] [zO hd 5 [.ref h0, .ref hh, .ref aSl, .ref aFi, .ref tO], zO h0 2 [.ref aE, .ref aT, .ref aP, zi ((ids : Nat) : Int)], zO aE 0 [.ref aK, .ref aN, zi ((cnt : Nat) : Int)], zAI ct aK 40 (zN keys), zAI ct aN 40 (zN names)] [zi (foF (idP keys id) cnt)] rfl rfl rfl rfl ?_
  have hf9 := foF_rg (idP keys id) cnt
  have hf8 := foF_ge (idP keys id) cnt
  refine z_istore_n Z dX6_placeOfEntry_11 [(2, zi (foF (idP keys id) cnt)), (0, .ref hd), (1, zi id)] (by decide) rfl ?_
  refine z_iload_n Z dX6_placeOfEntry_12 0 rfl ?_
  refine z_iconst (v := -1) Z dX6_placeOfEntry_13 rfl ?_
  refine z_icmp_ne Z 27 dX6_placeOfEntry_14 (by decide) (by omega) (by omega) (fun h14 => ?_) (fun h14 => ?_)
  · refine z_iload_n Z dX6_placeOfEntry_27 0 rfl ?_
    refine z_top (y := (((foF (idP keys id) cnt).toNat : Nat) : Int)) (by omega) ?_
    refine z_eqs [zO hd 5 [.ref h0, .ref hh, .ref aSl, .ref aFi, .ref tO], zO h0 2 [.ref aE, .ref aT, .ref aP, zi ((ids : Nat) : Int)], zO aE 0 [.ref aK, .ref aN, zi ((cnt : Nat) : Int)], zAI ct aK 40 (zN keys), zAI ct aN 40 (zN names)] _ [zi (((foF (idP keys id) cnt).toNat : Nat) : Int)] (rfl) rfl (rfl) ?_
    exact hR _ _ () trivial dX6_placeOfEntry_28
  · exfalso; first | contradiction | omega
theorem zin_X6_requireAddable_X6 : ∀ w ∈ wsX60, w ∈ wsX6_requireAddable := by decide +kernel
theorem zlk_X6_requireAddable_12 : Cond.fieldLink RX6 12 "HashedDirectory" "state" "LHashedDirectory$State;" ∈ wsX6_requireAddable := by decide +kernel
set_option maxHeartbeats 4000000 in
set_option maxRecDepth 100000 in
theorem zc_X6_requireAddable (l : Launch) (D : va_G) (ct : zCT) (hd : Nat) (tO : Nat) (aSl : Nat) (aFi : Nat) (h0 : Nat) (aE : Nat) (aT : Nat) (aP : Nat) (aK : Nat) (aN : Nat) (keys : Nat → Nat) (names : Nat → Nat) (cnt : Nat) (ids : Nat) (hh : Nat) (nm : Nat) (hc40 : cnt ≤ 40) (hk : ∀ j, j < 40 → keys j < 64000) (hn : ∀ j, j < 40 → names j < 1073741824) (hi : ids < 2000) (hm : nm < 1073741824) (hadd : cnt < 40 ∧ (ids < 1000 ∧ foF (nmP names nm) cnt = -1)) : zMet l yX6_requireAddable wsX6_requireAddable ({ frames := 3, cells := 0, slots := 0, locals := 64 } : Room) D ct [.ref hd, zi ((nm : Nat) : Int)] [zO hd 5 [.ref h0, .ref hh, .ref aSl, .ref aFi, .ref tO], zO h0 2 [.ref aE, .ref aT, .ref aP, zi ((ids : Nat) : Int)], zO aE 0 [.ref aK, .ref aN, zi ((cnt : Nat) : Int)], zAI ct aK 40 (zN keys), zAI ct aN 40 (zN names)] (fun _ : Unit => True) (fun _ => none) (fun _ => [zO hd 5 [.ref h0, .ref hh, .ref aSl, .ref aFi, .ref tO], zO h0 2 [.ref aE, .ref aT, .ref aP, zi ((ids : Nat) : Int)], zO aE 0 [.ref aK, .ref aN, zi ((cnt : Nat) : Int)], zAI ct aK 40 (zN keys), zAI ct aN 40 (zN names)]) 0 0 := by
  refine zMet_v (cc := cX6_requireAddable) (maxL := 2) (by decide) rfl (Nat.le_of_ble_eq_true rfl) ?_
  intro p e s m below meth c A Q Z hnm hR
  refine z_eqs _ [(0, .ref hd), (1, zi ((nm : Nat) : Int))] _ rfl rfl rfl ?_
  refine z_aload_n Z dX6_requireAddable_0 0 rfl ?_
  refine z_get Z dX6_requireAddable_1 zin_X6_requireAddable_X6 0 0 rfl rfl (by decide) zlk_X6_requireAddable_12 rfl ?_
  refine z_iload_n Z dX6_requireAddable_4 1 rfl ?_
  refine z_callVu (rest := []) Z dX6_requireAddable_5 2 1 _ _ rfl rfl rfl (zc_X3_canAdd l D ct (h0) (aE) (aT) (aP) (aK) (aN) (keys) (names) (cnt) (ids) (nm) (by first | assumption | omega) (by first | assumption | omega) (by first | assumption | omega) (by first | assumption | omega) (by first | assumption | omega)) (cwV 1 Z.1.2.2.2.2 gX6_requireAddable_X3_canAdd rfl rfl rfl (by decide +kernel) ⟨Nat.le_of_ble_eq_true rfl, Nat.le_of_ble_eq_true rfl⟩) rfl (Nat.le_of_ble_eq_true rfl) ⟨Nat.le_of_ble_eq_true rfl, Nat.le_of_ble_eq_true rfl⟩ [false, true, true, true, true] [zO hd 5 [.ref h0, .ref hh, .ref aSl, .ref aFi, .ref tO], zO h0 2 [.ref aE, .ref aT, .ref aP, zi ((ids : Nat) : Int)], zO aE 0 [.ref aK, .ref aN, zi ((cnt : Nat) : Int)], zAI ct aK 40 (zN keys), zAI ct aN 40 (zN names)] [zi (zb (decide (cnt < 40 ∧ (ids < 1000 ∧ foF (nmP names nm) cnt = -1))))] rfl rfl rfl rfl ?_
  refine z_ifb_ne Z 21 dX6_requireAddable_8 (by decide) (fun h8 => ?_) (fun h8 => ?_)
  · have h8 := of_decide_eq_true h8
    refine z_eqs [zO hd 5 [.ref h0, .ref hh, .ref aSl, .ref aFi, .ref tO], zO h0 2 [.ref aE, .ref aT, .ref aP, zi ((ids : Nat) : Int)], zO aE 0 [.ref aK, .ref aN, zi ((cnt : Nat) : Int)], zAI ct aK 40 (zN keys), zAI ct aN 40 (zN names)] _ [] (rfl) rfl (rfl) ?_
    exact hR _ _ () trivial dX6_requireAddable_21
  · have h8 := of_decide_eq_false h8
    exfalso; first | contradiction | omega
theorem zin_X6_requireOpen_X6 : ∀ w ∈ wsX60, w ∈ wsX6_requireOpen := by decide +kernel
theorem zlk_X6_requireOpen_12 : Cond.fieldLink RX6 12 "HashedDirectory" "state" "LHashedDirectory$State;" ∈ wsX6_requireOpen := by decide +kernel
set_option maxHeartbeats 4000000 in
set_option maxRecDepth 100000 in
theorem zc_X6_requireOpen (l : Launch) (D : va_G) (ct : zCT) (hd : Nat) (tO : Nat) (aSl : Nat) (aFi : Nat) (h0 : Nat) (aE : Nat) (aT : Nat) (aP : Nat) (pos : Nat → Int) (ids : Nat) (hh : Nat) (r : Nat) (hp : ∀ j, j < 4 → -2 ≤ pos j ∧ pos j < 64000) (hr : r < 4) (hop : pos r ≠ -2) : zMet l yX6_requireOpen wsX6_requireOpen ({ frames := 1, cells := 0, slots := 0, locals := 21 } : Room) D ct [.ref hd, zi ((r : Nat) : Int)] [zO hd 5 [.ref h0, .ref hh, .ref aSl, .ref aFi, .ref tO], zO h0 2 [.ref aE, .ref aT, .ref aP, zi ((ids : Nat) : Int)], zAI ct aP 4 pos] (fun _ : Unit => True) (fun _ => none) (fun _ => [zO hd 5 [.ref h0, .ref hh, .ref aSl, .ref aFi, .ref tO], zO h0 2 [.ref aE, .ref aT, .ref aP, zi ((ids : Nat) : Int)], zAI ct aP 4 pos]) 0 0 := by
  refine zMet_v (cc := cX6_requireOpen) (maxL := 2) (by decide) rfl (Nat.le_of_ble_eq_true rfl) ?_
  intro p e s m below meth c A Q Z hnm hR
  refine z_eqs _ [(0, .ref hd), (1, zi ((r : Nat) : Int))] _ rfl rfl rfl ?_
  refine z_aload_n Z dX6_requireOpen_0 0 rfl ?_
  refine z_get Z dX6_requireOpen_1 zin_X6_requireOpen_X6 0 0 rfl rfl (by decide) zlk_X6_requireOpen_12 rfl ?_
  refine z_iload_n Z dX6_requireOpen_4 1 rfl ?_
  refine z_callVu (rest := []) Z dX6_requireOpen_5 2 1 _ _ rfl rfl rfl (zc_X3_isOpen l D ct (h0) (aE) (aT) (aP) (pos) (ids) (r) (by first | assumption | omega) (by first | assumption | omega)) (cwV 1 Z.1.2.2.2.2 gX6_requireOpen_X3_isOpen rfl rfl rfl (by decide +kernel) ⟨Nat.le_of_ble_eq_true rfl, Nat.le_of_ble_eq_true rfl⟩) rfl (Nat.le_of_ble_eq_true rfl) ⟨Nat.le_of_ble_eq_true rfl, Nat.le_of_ble_eq_true rfl⟩ [false, true, true] [zO hd 5 [.ref h0, .ref hh, .ref aSl, .ref aFi, .ref tO], zO h0 2 [.ref aE, .ref aT, .ref aP, zi ((ids : Nat) : Int)], zAI ct aP 4 pos] [zi (zb (decide (pos r ≠ -2)))] rfl rfl rfl rfl ?_
  refine z_ifb_ne Z 21 dX6_requireOpen_8 (by decide) (fun h8 => ?_) (fun h8 => ?_)
  · have h8 := of_decide_eq_true h8
    refine z_eqs [zO hd 5 [.ref h0, .ref hh, .ref aSl, .ref aFi, .ref tO], zO h0 2 [.ref aE, .ref aT, .ref aP, zi ((ids : Nat) : Int)], zAI ct aP 4 pos] _ [] (rfl) rfl (rfl) ?_
    exact hR _ _ () trivial dX6_requireOpen_21
  · have h8 := of_decide_eq_false h8
    exfalso; first | contradiction | omega
set_option maxHeartbeats 4000000 in
set_option maxRecDepth 100000 in
theorem zc_X6_requireReader (l : Launch) (D : va_G) (ct : zCT) (r : Nat) (hr : r < 4) : zMet l yX6_requireReader wsX6_requireReader ({ frames := 0, cells := 0, slots := 0, locals := 0 } : Room) D ct [zi ((r : Nat) : Int)] [] (fun _ : Unit => True) (fun _ => none) (fun _ => []) 0 0 := by
  refine zMet_v (cc := cX6_requireReader) (maxL := 1) (by decide) rfl (Nat.le_of_ble_eq_true rfl) ?_
  intro p e s m below meth c A Q Z hnm hR
  refine z_eqs _ [(0, zi ((r : Nat) : Int))] _ rfl rfl rfl ?_
  refine z_iload_n Z dX6_requireReader_0 0 rfl ?_
  refine z_if_lt Z 9 dX6_requireReader_1 (by decide) (by omega) (fun h1 => ?_) (fun h1 => ?_)
  · exfalso; first | contradiction | omega
  · refine z_iload_n Z dX6_requireReader_4 0 rfl ?_
    refine z_iconst (v := 4) Z dX6_requireReader_5 rfl ?_
    refine z_icmp_lt Z 19 dX6_requireReader_6 (by decide) (by omega) (by omega) (fun h6 => ?_) (fun h6 => ?_)
    · refine z_eqs [] _ [] (rfl) rfl (rfl) ?_
      exact hR _ _ () trivial dX6_requireReader_19
    · exfalso; first | contradiction | omega
set_option maxHeartbeats 4000000 in
set_option maxRecDepth 100000 in
theorem zc_X6_requireSlot (l : Launch) (D : va_G) (ct : zCT) (r : Nat) (hr : r < 2) : zMet l yX6_requireSlot wsX6_requireSlot ({ frames := 0, cells := 0, slots := 0, locals := 0 } : Room) D ct [zi ((r : Nat) : Int)] [] (fun _ : Unit => True) (fun _ => none) (fun _ => []) 0 0 := by
  refine zMet_v (cc := cX6_requireSlot) (maxL := 1) (by decide) rfl (Nat.le_of_ble_eq_true rfl) ?_
  intro p e s m below meth c A Q Z hnm hR
  refine z_eqs _ [(0, zi ((r : Nat) : Int))] _ rfl rfl rfl ?_
  refine z_iload_n Z dX6_requireSlot_0 0 rfl ?_
  refine z_if_lt Z 9 dX6_requireSlot_1 (by decide) (by omega) (fun h1 => ?_) (fun h1 => ?_)
  · exfalso; first | contradiction | omega
  · refine z_iload_n Z dX6_requireSlot_4 0 rfl ?_
    refine z_iconst (v := 2) Z dX6_requireSlot_5 rfl ?_
    refine z_icmp_lt Z 19 dX6_requireSlot_6 (by decide) (by omega) (by omega) (fun h6 => ?_) (fun h6 => ?_)
    · refine z_eqs [] _ [] (rfl) rfl (rfl) ?_
      exact hR _ _ () trivial dX6_requireSlot_19
    · exfalso; first | contradiction | omega
set_option maxHeartbeats 4000000 in
set_option maxRecDepth 100000 in
theorem zc_X6_requireHash (l : Launch) (D : va_G) (ct : zCT) (r : Nat) (hr : r < 64) : zMet l yX6_requireHash wsX6_requireHash ({ frames := 0, cells := 0, slots := 0, locals := 0 } : Room) D ct [zi ((r : Nat) : Int)] [] (fun _ : Unit => True) (fun _ => none) (fun _ => []) 0 0 := by
  refine zMet_v (cc := cX6_requireHash) (maxL := 1) (by decide) rfl (Nat.le_of_ble_eq_true rfl) ?_
  intro p e s m below meth c A Q Z hnm hR
  refine z_eqs _ [(0, zi ((r : Nat) : Int))] _ rfl rfl rfl ?_
  refine z_iload_n Z dX6_requireHash_0 0 rfl ?_
  refine z_if_lt Z 10 dX6_requireHash_1 (by decide) (by omega) (fun h1 => ?_) (fun h1 => ?_)
  · exfalso; first | contradiction | omega
  · refine z_iload_n Z dX6_requireHash_4 0 rfl ?_
    refine z_bipush (v := 64) Z dX6_requireHash_5 (by decide +kernel) ?_
    refine z_icmp_lt Z 20 dX6_requireHash_7 (by decide) (by omega) (by omega) (fun h7 => ?_) (fun h7 => ?_)
    · refine z_eqs [] _ [] (rfl) rfl (rfl) ?_
      exact hR _ _ () trivial dX6_requireHash_20
    · exfalso; first | contradiction | omega
