/-! what the checks of the law rest on -/
/-- the width of a leaf, its number among those as wide -/
def wdF (d : Nat) : Nat := 64 / 2 ^ d
def qdF (h d : Nat) : Nat := h / wdF d
theorem wdF_eq {d : Nat} (hd : d < 7) : wdF d = 2 ^ (6 - d) := by
  have : ∀ d, d < 7 → wdF d = 2 ^ (6 - d) := by decide +kernel
  exact this d hd
theorem wdF_rg {d : Nat} (hd : d < 7) : 0 < wdF d ∧ wdF d ≤ 64 := by
  have : ∀ d, d < 7 → 0 < wdF d ∧ wdF d ≤ 64 := by decide +kernel
  exact this d hd
theorem fh_qd {h d : Nat} (hd : d < 7) : qdF h d * wdF d = fhF h d := by
  unfold qdF fhF
  rw [wdF_eq hd]
def rdF (h d : Nat) : Nat := h % wdF d
theorem wd_fh {h d : Nat} (hh : h < 64) (hd : d < 7) : (rdF h d = 0 ↔ fhF h d = h) ∧ rdF h d < 64 := by
  have : ∀ d, d < 7 → ∀ h, h < 64 → (rdF h d = 0 ↔ fhF h d = h) ∧ rdF h d < 64 := by decide +kernel
  exact this d hd h hh
theorem lcF_s0 {f : Nat → Nat} {i : Nat} (h : ¬ fhF i (f i) = i) : lcF f (i + 1) = lcF f i + 0 := by
  show lcF f i + (if fhF i (f i) = i then 1 else 0) = _
  rw [if_neg h]
theorem lcF_s1 {f : Nat → Nat} {i : Nat} (h : fhF i (f i) = i) : lcF f (i + 1) = lcF f i + 1 := by
  show lcF f i + (if fhF i (f i) = i then 1 else 0) = _
  rw [if_pos h]
/-- the leaf beside -/
def bsF (h d : Nat) : Nat := if qdF h d % 2 = 0 then fhF h d + wdF d else fhF h d - wdF d
theorem bs_odd {h d : Nat} (hh : h < 64) (hd : d < 7) : qdF h d % 2 ≠ 0 → wdF d ≤ fhF h d := by
  have : ∀ d, d < 7 → ∀ h, h < 64 → qdF h d % 2 ≠ 0 → wdF d ≤ fhF h d := by decide +kernel
  exact this d hd h hh
theorem bs_lt {h d : Nat} (hh : h < 64) (hd : d < 7) (h0 : 0 < d) : bsF h d < 64 ∧ fhF (bsF h d) d = fhF (sbF h d) d := by
  have : ∀ d, d < 7 → 0 < d → ∀ h, h < 64 → bsF h d < 64 ∧ fhF (bsF h d) d = fhF (sbF h d) d := by decide +kernel
  exact this d hd h0 h hh
/-- the entries with the first hashes -/
def waF (s : StV) : Nat → Nat
  | 0 => 0
  | i + 1 => waF s i + cbF s.1 s.2.2.2.2.1 i 6
theorem fl_6 {i : Nat} (hi : i < 64) : fhF i 6 = i ∧ lhF i 6 = i := by
  have : ∀ i, i < 64 → fhF i 6 = i ∧ lhF i 6 = i := by decide +kernel
  exact this i hi
theorem waF_pa (s : StV) : ∀ i, i ≤ 64 → waF s i = paF s.1 s.2.2.2.2.1 (((i * 1000 : Nat) : Int) - 1)
  | 0, _ => by
    show 0 = _
    exact paF_eq (Nat.zero_le _) (fun j hj => absurd hj (Nat.not_lt_zero j)) (fun _ => by omega)
  | i + 1, hi => by
    have ih := waF_pa s i (by omega)
    obtain ⟨f1, f2⟩ := fl_6 (show i < 64 by omega)
    show waF s i + cbF s.1 s.2.2.2.2.1 i 6 = _
    unfold cbF
    rw [f1, f2, ih, show (((i + 1) * 1000 : Nat) : Int) - 1 = ((i * 1000 + 999 : Nat) : Int) by omega]
    have := paF_mono s.1 s.2.2.2.2.1 (show ((i * 1000 : Nat) : Int) - 1 ≤ ((i * 1000 + 999 : Nat) : Int) by omega)
    omega
theorem waF_64 {s : StV} (h : Gd s) : waF s 64 = s.2.2.2.2.1 := by
  rw [waF_pa s 64 (Nat.le_refl _)]
  refine (paF_eq (Nat.le_refl _) (fun j hj => ?_) (fun h => absurd h (Nat.lt_irrefl _))).symm
  have := h.1.1.2.1 j (by have := h.1.1.1; omega)
  omega
theorem cb_Gd {s : StV} (k : Gd s) {h d : Nat} (hh : h < 64) (hd : d < 7) : cbF s.1 s.2.2.2.2.1 h d = cwF s.1 s.2.2.2.2.1 h d :=
  cb_cw hh hd k.2.1.1 (fun j hj => k.1.1.2.1 j (by have := k.1.1.1; omega))
theorem cb_ge {s : StV} (k : Gd s) {h : Nat} (hh : h < 64) : cbF s.1 s.2.2.2.2.1 h 6 ≤ cbF s.1 s.2.2.2.2.1 h (s.2.2.1 h) := by
  have hd := (k.2.2.1 h hh).1
  rw [cb_Gd k hh (by decide), cb_Gd k hh hd]
  exact cw_6 hh (fun j hj => k.1.1.2.1 j (by have := k.1.1.1; omega)) (6 - s.2.2.1 h) _ (by omega)
theorem cb_4 {s : StV} (k : Gd s) {h : Nat} (hh : h < 64) (h6 : s.2.2.1 h ≠ 6) : cbF s.1 s.2.2.2.2.1 h (s.2.2.1 h) ≤ 4 := by
  have hd := (k.2.2.1 h hh).1
  rw [cb_Gd k hh hd]
  exact k.2.2.2.2 h hh (by omega)
/-- the key before -/
def laF (s : StV) : Nat → Int
  | 0 => -1
  | i + 1 => ((s.1 i : Nat) : Int)
theorem laF_lt {s : StV} (k : Gd s) {i : Nat} (hi : i < s.2.2.2.2.1) : -1 ≤ laF s i ∧ laF s i < ((s.1 i : Nat) : Int) := by
  cases i with
  | zero => show -1 ≤ -1 ∧ (-1 : Int) < _; omega
  | succ i =>
    have := k.2.1.1 i (i + 1) (by omega) hi
    show -1 ≤ ((s.1 i : Nat) : Int) ∧ ((s.1 i : Nat) : Int) < _
    omega
theorem leF_0 {s : StV} (k : Gd s) {i : Nat} (hi : i < s.2.2.2.2.1) : 97 ≤ leF (s.2.1 i) 0 ∧ leF (s.2.1 i) 0 ≤ 200 := by
  have h1 := k.2.1.2.2.2 i hi
  have h2 := ltF_lt (s.2.1 i) 0
  unfold leF
  rw [if_neg h1]
  omega
theorem fcm_ok {c n : Nat} (hc : c ≤ 40) (h0 : 0 < n) (hn : n ≤ 64) : Op.cmpValue (FP.fcmp (FP.fdiv (FP.i2f (zI ((c : Nat) : Int))) (FP.i2f (zI ((n : Nat) : Int)))) (FP.fdiv (FP.i2f (zI ((c : Nat) : Int))) (FP.i2f (zI ((n : Nat) : Int))))) .l = zI 0 := by
  have : ∀ c, c < 41 → ∀ n, n < 65 → 0 < n → Op.cmpValue (FP.fcmp (FP.fdiv (FP.i2f (zI ((c : Nat) : Int))) (FP.i2f (zI ((n : Nat) : Int)))) (FP.fdiv (FP.i2f (zI ((c : Nat) : Int))) (FP.i2f (zI ((n : Nat) : Int))))) .l = zI 0 := by decide +kernel
  exact this c (by omega) n (by omega) h0
/-- the entries above a position -/
def abF (s : StV) (p : Int) : Nat → Nat
  | 0 => 0
  | i + 1 => abF s p i + if p < ((s.1 i : Nat) : Int) then 1 else 0
theorem abF_cn (s : StV) (p : Int) : ∀ i, abF s p i + cnL s.1 p i = i
  | 0 => rfl
  | i + 1 => by
    have ih := abF_cn s p i
    show abF s p i + (if p < ((s.1 i : Nat) : Int) then 1 else 0) + (cnL s.1 p i + if ((s.1 i : Nat) : Int) ≤ p then 1 else 0) = i + 1
    split <;> split <;> omega
theorem abF_le (s : StV) (p : Int) (i : Nat) : abF s p i ≤ i := by
  have := abF_cn s p i
  omega
theorem abF_pa {s : StV} (k : Gd s) (r : Nat) : abF s (s.2.2.2.1 r) s.2.2.2.2.1 = s.2.2.2.2.1 - paV r s := by
  have := abF_cn s (s.2.2.2.1 r) s.2.2.2.2.1
  unfold paV
  rw [paF_cn k.2.1.1]
  omega
theorem abF_s (s : StV) (p : Int) (i : Nat) : abF s p (i + 1) = abF s p i + if p < ((s.1 i : Nat) : Int) then 1 else 0 := rfl
/-- the reader's leaf -/
theorem el_gt {s : StV} (k : Gd s) {r : Nat} (hp : paV r s < s.2.2.2.2.1) : paV r s < elV r s := by
  have hc := k.1.1.1
  have hk := k.1.1.2.1 (paV r s) (by omega)
  have hd := (k.2.2.1 (s.1 (paV r s) / 1000) (by omega)).1
  have hf := fh_le (show s.1 (paV r s) / 1000 < 64 by omega) hd
  have h1 := paF_p k.2.1.1 ((lhF (s.1 (paV r s) / 1000) (s.2.2.1 (s.1 (paV r s) / 1000)) * 1000 + 999 : Nat) : Int)
  unfold elV
  rw [if_pos hp]
  unfold elF
  rcases Nat.lt_or_ge (paV r s) (paF s.1 s.2.2.2.2.1 ((lhF (s.1 (paV r s) / 1000) (s.2.2.1 (s.1 (paV r s) / 1000)) * 1000 + 999 : Nat) : Int)) with c | c
  · exact c
  · have := h1.2 (paV r s) c hp
    omega
theorem el_wh {s : StV} (k : Gd s) {r : Nat} (hp : paV r s < s.2.2.2.2.1) : elV r s - paV r s ≤ cbF s.1 s.2.2.2.2.1 (s.1 (paV r s) / 1000) (s.2.2.1 (s.1 (paV r s) / 1000)) := by
  have hc := k.1.1.1
  have hk := k.1.1.2.1 (paV r s) (by omega)
  have hd := (k.2.2.1 (s.1 (paV r s) / 1000) (by omega)).1
  have hf := fh_le (show s.1 (paV r s) / 1000 < 64 by omega) hd
  have h1 := paF_p k.2.1.1 (((fhF (s.1 (paV r s) / 1000) (s.2.2.1 (s.1 (paV r s) / 1000)) * 1000 : Nat) : Int) - 1)
  unfold elV cbF
  rw [if_pos hp]
  unfold elF
  have h2 : paF s.1 s.2.2.2.2.1 (((fhF (s.1 (paV r s) / 1000) (s.2.2.1 (s.1 (paV r s) / 1000)) * 1000 : Nat) : Int) - 1) ≤ paV r s := by
    rcases Nat.lt_or_ge (paV r s) (paF s.1 s.2.2.2.2.1 (((fhF (s.1 (paV r s) / 1000) (s.2.2.1 (s.1 (paV r s) / 1000)) * 1000 : Nat) : Int) - 1)) with c | c
    · have := h1.1 (paV r s) c
      omega
    · exact c
  omega
/-- behind a key read -/
theorem pa_key {s : StV} (k : Gd s) {i : Nat} (hi : i < s.2.2.2.2.1) : paF s.1 s.2.2.2.2.1 ((s.1 i : Nat) : Int) = i + 1 := by
  refine (paF_eq (by omega) (fun j hj => ?_) (fun h => ?_)).symm
  · rcases Nat.eq_or_lt_of_le (show j ≤ i by omega) with c | c
    · rw [c]; exact Int.le_refl _
    · have := k.2.1.1 j i c hi
      omega
  · have := k.2.1.1 i (i + 1) (by omega) h
    omega
/-- the entry that was added -/
def mkP (nm : Nat) (s : StV) : Nat := paF s.1 s.2.2.2.2.1 ((hsF nm * 1000 + s.2.2.2.2.2.2.2 : Nat) : Int)
theorem mkP_le (nm : Nat) (s : StV) : mkP nm s ≤ s.2.2.2.2.1 := paF_le _ _ _
theorem mkP_k (nm : Nat) (s : StV) : (mkS nm s).1 (mkP nm s) = hsF nm * 1000 + s.2.2.2.2.2.2.2 := by
  show inF s.1 (mkP nm s) s.2.2.2.2.1 (hsF nm * 1000 + s.2.2.2.2.2.2.2) (mkP nm s) = _
  rw [inF_v, if_pos rfl]
theorem mkP_n (nm : Nat) (s : StV) : (mkS nm s).2.1 (mkP nm s) = nm := by
  show inF s.2.1 (mkP nm s) s.2.2.2.2.1 nm (mkP nm s) = _
  rw [inF_v, if_pos rfl]
theorem mkP_id {nm : Nat} {s : StV} (k2 : Gd (mkS nm s)) (hi : s.2.2.2.2.2.2.2 < 1000) : foF (idP (mkS nm s).1 ((s.2.2.2.2.2.2.2 : Nat) : Int)) (mkS nm s).2.2.2.2.1 = ((mkP nm s : Nat) : Int) := by
  have h1 := fo_id k2 (k := mkP nm s) (show mkP nm s < s.2.2.2.2.1 + 1 by have := mkP_le nm s; omega)
  rw [mkP_k, show (hsF nm * 1000 + s.2.2.2.2.2.2.2) % 1000 = s.2.2.2.2.2.2.2 by omega] at h1
  exact h1
theorem fo_all {p : Nat → Bool} {n : Nat} (h : foF p n = -1) : ∀ j, j < n → p j = false := by
  intro j hj
  refine fiF_no p n j ?_
  unfold foF at h
  split at h
  · omega
  · have := fiF_le p n; omega
theorem mk_find {nm : Nat} {s : StV} (hi : s.2.2.2.2.2.2.2 < 1000) (hno : foF (nmP s.2.1 nm) s.2.2.2.2.1 = -1) : fdV (mkS nm s) nm = ((s.2.2.2.2.2.2.2 : Nat) : Int) := by
  have hle := mkP_le nm s
  have h1 : ((mkP nm s : Nat) : Int) = foF (nmP (mkS nm s).2.1 nm) (mkS nm s).2.2.2.2.1 := by
    refine foF_yes (show mkP nm s < s.2.2.2.2.1 + 1 by omega) (fun j hj => ?_) (decide_eq_true (mkP_n nm s))
    have := fo_all hno j (by omega)
    refine decide_eq_false ?_
    show ¬ inF s.2.1 (mkP nm s) s.2.2.2.2.1 nm j = nm
    rw [inF_v, if_neg (by omega), if_neg (by omega)]
    exact of_decide_eq_false this
  rw [fdV_yes (by rw [← h1]; omega), ← h1, (fo_nn _).2, mkP_k, show (hsF nm * 1000 + s.2.2.2.2.2.2.2) % 1000 = s.2.2.2.2.2.2.2 by omega]
theorem rm_find {nm : Nat} {s : StV} (hno : foF (nmP s.2.1 nm) s.2.2.2.2.1 = -1) : fdV (rmS (mkP nm s) (mkS nm s)) nm = -2 := by
  have hle := mkP_le nm s
  refine fdV_no (foF_no (fun j hj => ?_)).symm
  have hj : j < s.2.2.2.2.1 + 1 - 1 := hj
  refine decide_eq_false ?_
  show ¬ shL (inF s.2.1 (mkP nm s) s.2.2.2.2.1 nm) (mkP nm s) (s.2.2.2.2.1 + 1 - 1) j = nm
  have h2 := of_decide_eq_false (fo_all hno j (by omega))
  rw [shL_v]
  split
  · rw [inF_v, if_neg (by omega), if_pos (by omega)]
    exact h2
  · rw [inF_v, if_neg (by omega), if_neg (by omega)]
    exact h2
/-- the leaves told ahead -/
theorem ds_sp {big big2 : Nat → Bool} {H : Nat} (hH : H < 64) (hb : ∀ e, e < 7 → big2 e = big e) : ∀ k d f n, d + k = 6 → TD f → f H = d → lcF (spF big H k d (f, n)).1 64 + d = lcF f 64 + dsF big2 k d ∧ (spF big H k d (f, n)).2 + d = n + dsF big2 k d
  | 0, d, f, n, _, _, _ => ⟨rfl, rfl⟩
  | k + 1, d, f, n, hd, hT, hf => by
    unfold spF dsF
    rw [hb d (by omega)]
    by_cases c : big d = true
    · rw [if_pos c, if_pos c]
      have hi : fhF H d ≤ H ∧ H < lhF H d + 1 := by have := fh_le hH (show d < 7 by omega); omega
      have hl2 := lc_split hT hH (show d < 6 by omega) hf
      have r := ds_sp hH hb k (d + 1) (seF f (fhF H d) (lhF H d + 1) (d + 1)) (n + 1) (by omega) (TD_split hT hH (by omega) hf) (by rw [seF_v, if_pos hi])
      obtain ⟨r1, r2⟩ := r
      dsimp only
      exact ⟨by omega, by omega⟩
    · rw [if_neg c, if_neg c]
      exact ⟨rfl, rfl⟩
theorem la_mk {nm : Nat} {s : StV} (k : Gd s) (k2 : Gd (mkS nm s)) (hi : s.2.2.2.2.2.2.2 < 1000) : lcF s.2.2.1 64 + dsF (bgA s.1 s.2.2.2.2.1 (hsF nm)) (6 - s.2.2.1 (hsF nm)) (s.2.2.1 (hsF nm)) - s.2.2.1 (hsF nm) = lcF (mkS nm s).2.2.1 64 := by
  have hH := hsF_lt nm
  have hd := (k.2.2.1 _ hH).1
  have hb : ∀ e, e < 7 → bgA s.1 s.2.2.2.2.1 (hsF nm) e = bgS (mkK s.1 s.2.2.2.2.1 nm s.2.2.2.2.2.2.2) (s.2.2.2.2.1 + 1) (hsF nm) e := by
    intro e he
    have h1 := cb_Gd k hH he
    have h2 : cbF (mkK s.1 s.2.2.2.2.1 nm s.2.2.2.2.2.2.2) (s.2.2.2.2.1 + 1) (hsF nm) e = _ := cb_Gd k2 hH he
    have h3 : cwF (mkK s.1 s.2.2.2.2.1 nm s.2.2.2.2.2.2.2) (s.2.2.2.2.1 + 1) (hsF nm) e = cwF s.1 s.2.2.2.2.1 (hsF nm) e + brF (hsF nm) e (hsF nm * 1000 + s.2.2.2.2.2.2.2) := suF_ins (mkP_le nm s)
    rw [brF_e, show (hsF nm * 1000 + s.2.2.2.2.2.2.2) / 1000 = hsF nm by omega, if_pos rfl] at h3
    have h2 : cbF (mkK s.1 s.2.2.2.2.1 nm s.2.2.2.2.2.2.2) (s.2.2.2.2.1 + 1) (hsF nm) e = cwF (mkK s.1 s.2.2.2.2.1 nm s.2.2.2.2.2.2.2) (s.2.2.2.2.1 + 1) (hsF nm) e := h2
    unfold bgA bgS
    rw [h2, h3, h1]
  have h := (ds_sp (big := bgS (mkK s.1 s.2.2.2.2.1 nm s.2.2.2.2.2.2.2) (s.2.2.2.2.1 + 1) (hsF nm)) hH hb (6 - s.2.2.1 (hsF nm)) (s.2.2.1 (hsF nm)) s.2.2.1 s.2.2.2.2.2.1 (by omega) k.2.2.1 rfl).1
  have h : lcF (mkS nm s).2.2.1 64 + s.2.2.1 (hsF nm) = _ := h
  omega
/-- two leaves that are not merged hold more than two -/
theorem no_merge {nm : Nat} {s : StV} (k2 : Gd (mkS nm s)) (kT : Gd (rmS (mkP nm s) (mkS nm s))) (hi : s.2.2.2.2.2.2.2 < 1000)
    (h0 : (rmS (mkP nm s) (mkS nm s)).2.2.1 (hsF nm) ≠ 0) (hb : (rmS (mkP nm s) (mkS nm s)).2.2.1 (bsF (hsF nm) ((rmS (mkP nm s) (mkS nm s)).2.2.1 (hsF nm))) = (rmS (mkP nm s) (mkS nm s)).2.2.1 (hsF nm)) :
    2 < cbF (rmS (mkP nm s) (mkS nm s)).1 (rmS (mkP nm s) (mkS nm s)).2.2.2.2.1 (hsF nm) ((rmS (mkP nm s) (mkS nm s)).2.2.1 (hsF nm)) + cbF (rmS (mkP nm s) (mkS nm s)).1 (rmS (mkP nm s) (mkS nm s)).2.2.2.2.1 (bsF (hsF nm) ((rmS (mkP nm s) (mkS nm s)).2.2.1 (hsF nm))) ((rmS (mkP nm s) (mkS nm s)).2.2.1 (bsF (hsF nm) ((rmS (mkP nm s) (mkS nm s)).2.2.1 (hsF nm)))) := by
  have hH := hsF_lt nm
  have h3 := (Gd_rm k2 (k := mkP nm s) (show mkP nm s < s.2.2.2.2.1 + 1 by have := mkP_le nm s; omega)).2.2
  rw [mkP_k, show (hsF nm * 1000 + s.2.2.2.2.2.2.2) / 1000 = hsF nm by omega] at h3
  have hcn : (mkS nm s).2.2.2.2.1 - 1 = (rmS (mkP nm s) (mkS nm s)).2.2.2.2.1 := rfl
  rw [hcn] at h3
  generalize rmS (mkP nm s) (mkS nm s) = T at *
  generalize hsF nm = H at *
  have hd := (kT.2.2.1 H hH).1
  rw [hb]
  generalize hD : T.2.2.1 H = d at *
  obtain ⟨b1, b2⟩ := bs_lt hH hd (by omega)
  obtain ⟨e, rfl⟩ : ∃ e, d = e + 1 := ⟨d - 1, by omega⟩
  have hs : T.2.2.1 (sbF H (e + 1)) = e + 1 := TD_leaf kT.2.2.1 b1 hb _ (bl_sb hH (by omega)).1 b2.symm
  have h4 : 2 < cwF T.1 T.2.2.2.2.1 H (e + 1 - 1) := (h3.resolve_left h0).resolve_left (fun z => z hs)
  rw [show e + 1 - 1 = e by omega, cw_two hH (by omega) _ (fun j hj => kT.1.1.2.1 j (by have := kT.1.1.1; omega))] at h4
  rw [cb_Gd kT hH hd, cb_Gd kT b1 hd, cw_same b2]
  exact h4
/-- a deed keeps the state good, and answers no negative number -/
def Bd (t : Nat) (s : StV) : Prop := s.2.2.2.2.2.2.2 ≤ t ∧ s.2.2.2.2.2.1 ≤ 6 * t ∧ s.2.2.2.2.2.2.1 ≤ 6 * t
theorem orF_nn (pos : Nat → Int) : 0 ≤ ((orF pos 4 : Nat) : Int) ∧ ((orF pos 4 : Nat) : Int) ≤ 4 := by
  have := orF_le pos 4
  omega
theorem pz_ok {s : StV} (k : Gd s) {t : Nat} (hb : Bd t s) {r : Nat} {v : Int} (hv : -2 ≤ v ∧ v < 64000) : Gd (pzS s (zU s.2.2.2.1 r v)) ∧ Bd (t + 1) (pzS s (zU s.2.2.2.1 r v)) :=
  ⟨Gd_pos k (zU_p k.1.2 hv), by obtain ⟨b1, b2, b3⟩ := hb; exact ⟨by show s.2.2.2.2.2.2.2 ≤ _; omega, by show s.2.2.2.2.2.1 ≤ _; omega, by show s.2.2.2.2.2.2.1 ≤ _; omega⟩⟩
def okV (t : Nat) (u : StV × Int) : Prop := (Gd u.1 ∧ Bd (t + 1) u.1) ∧ 0 ≤ u.2 ∧ u.2 < 70000
theorem op_ok {s : StV} (k : Gd s) {t : Nat} (hb : Bd t s) (r : Nat) : okV t (opV r s) :=
  ⟨pz_ok k hb (by decide), by have := orF_nn (zU s.2.2.2.1 r (-1)); exact ⟨this.1, by have := this.2; show ((orF (zU s.2.2.2.1 r (-1)) 4 : Nat) : Int) < 70000; omega⟩⟩
theorem Bd.more {t : Nat} {s : StV} (h : Bd t s) : Bd (t + 1) s := by
  obtain ⟨b1, b2, b3⟩ := h
  exact ⟨by omega, by omega, by omega⟩
theorem rm_ok {s : StV} (k : Gd s) {t : Nat} (hb : Bd t s) {i : Nat} (hi : i < s.2.2.2.2.1) : okV t (rvV i s) := by
  obtain ⟨g1, g2, -⟩ := Gd_rm k hi
  obtain ⟨b1, b2, b3⟩ := hb
  have hc := k.1.1.1
  refine ⟨⟨g1, ?_, ?_, ?_⟩, ?_, ?_⟩
  · show s.2.2.2.2.2.2.2 ≤ _; omega
  · show s.2.2.2.2.2.1 ≤ _; omega
  · show (rmS i s).2.2.2.2.2.2.1 ≤ _; omega
  · show 0 ≤ ((s.2.2.2.2.1 - 1 : Nat) : Int); omega
  · show ((s.2.2.2.2.1 - 1 : Nat) : Int) < _; omega
theorem ad_ok {s : StV} (k : Gd s) {t : Nat} (hb : Bd t s) (ht : t < 900) (hc : s.2.2.2.2.1 < 40) (nm : Nat) : okV t (adV (n2F nm) s) := by
  obtain ⟨b1, b2, b3⟩ := hb
  obtain ⟨g1, g2⟩ := Gd_mk k hc (by omega) (n2F_lt nm) (n2F_l nm)
  refine ⟨⟨g1, ?_, ?_, ?_⟩, ?_, ?_⟩
  · show s.2.2.2.2.2.2.2 + 1 ≤ _; omega
  · show (mkS (n2F nm) s).2.2.2.2.2.1 ≤ _; omega
  · show s.2.2.2.2.2.2.1 ≤ _; omega
  · show 0 ≤ ((s.2.2.2.2.2.2.2 : Nat) : Int); omega
  · show ((s.2.2.2.2.2.2.2 : Nat) : Int) < _; omega
theorem rn_ok {s : StV} (k : Gd s) {t : Nat} (hb : Bd t s) (ht : t < 900) {i : Nat} (hi : i < s.2.2.2.2.1) (nm : Nat) : okV t (rnV (n2F nm) i s) := by
  obtain ⟨b1, b2, b3⟩ := hb
  have hc := k.1.1.1
  obtain ⟨r1, r2, -⟩ := Gd_rm k hi
  obtain ⟨g1, g2⟩ := Gd_mk r1 (show s.2.2.2.2.1 - 1 < 40 by omega) (show s.2.2.2.2.2.2.2 < 1000 by omega) (n2F_lt nm) (n2F_l nm)
  have g3 : (rmS i s).2.2.2.2.2.1 = s.2.2.2.2.2.1 := rfl
  refine ⟨⟨g1, ?_, ?_, ?_⟩, ?_, ?_⟩
  · show s.2.2.2.2.2.2.2 + 1 ≤ _; omega
  · show (mkS (n2F nm) (rmS i s)).2.2.2.2.2.1 ≤ _; omega
  · show (rmS i s).2.2.2.2.2.2.1 ≤ _; omega
  · show 0 ≤ ((s.2.2.2.2.2.2.2 : Nat) : Int); omega
  · show ((s.2.2.2.2.2.2.2 : Nat) : Int) < _; omega
theorem sk_ok {s : StV} (k : Gd s) {t : Nat} (hb : Bd t s) {r : Nat} (hr : r < 4) {ps : Int} (hp : -1 ≤ ps ∧ ps ≤ 63999) (ho : s.2.2.2.1 r ≠ -2) : okV t (skV r ps s) := by
  have := k.1.2 r hr
  refine ⟨pz_ok k hb (by omega), ?_, ?_⟩
  · show 0 ≤ 1 + s.2.2.2.1 r; omega
  · show 1 + s.2.2.2.1 r < 70000; omega
theorem cl_ok {s : StV} (k : Gd s) {t : Nat} (hb : Bd t s) {r : Nat} (hr : r < 4) (ho : s.2.2.2.1 r ≠ -2) : okV t (clV r s) := by
  have := k.1.2 r hr
  refine ⟨pz_ok k hb (by decide), ?_, ?_⟩
  · show 0 ≤ 1 + s.2.2.2.1 r; omega
  · show 1 + s.2.2.2.1 r < 70000; omega
theorem nx_ok {s : StV} (k : Gd s) {t : Nat} (hb : Bd t s) (r : Nat) : okV t (nxV r s) := by
  unfold nxV
  by_cases c : paV r s < s.2.2.2.2.1
  · rw [if_pos c]
    have := k.1.1.2.1 (paV r s) (by have := k.1.1.1; omega)
    refine ⟨pz_ok k hb (by omega), ?_, ?_⟩
    · show 0 ≤ ((2 + s.1 (paV r s) % 1000 : Nat) : Int); omega
    · show ((2 + s.1 (paV r s) % 1000 : Nat) : Int) < 70000; omega
  · rw [if_neg c]
    exact ⟨⟨k, hb.more⟩, by show (0 : Int) ≤ 0; omega, by show (0 : Int) < 70000; omega⟩
theorem rl_ok {s : StV} (k : Gd s) {t : Nat} (hb : Bd t s) (r : Nat) : okV t (rlV r s) := by
  unfold rlV
  have he := elV_le r s
  have hc := k.1.1.1
  by_cases c : paV r s < elV r s
  · rw [if_pos c]
    have := k.1.1.2.1 (elV r s - 1) (by omega)
    refine ⟨pz_ok k hb (by omega), ?_, ?_⟩
    · show 0 ≤ ((elV r s - paV r s : Nat) : Int); omega
    · show ((elV r s - paV r s : Nat) : Int) < 70000; omega
  · rw [if_neg c]
    exact ⟨⟨k, hb.more⟩, by show (0 : Int) ≤ 0; omega, by show (0 : Int) < 70000; omega⟩
theorem act_ok {q s : StV} (k : Gd s) (kq : Gd q) {t : Nat} (hb : Bd t s) (hq : Bd t q) (ht : t < 900) (x y : Int32) : okV t (actF q s x y) := by
  have hr := upF_lt y (n := 4) (by decide)
  have hp := upF_lt (srF y 4) (n := 64001) (by decide)
  unfold actF
  generalize hps : (((upF (srF y 4) 64001 : Nat) : Int) - 1) = ps
  have hps2 : -1 ≤ ps ∧ ps ≤ 63999 := by omega
  have hi9 : s.2.2.2.2.1 ≠ 0 → upF (srF y 9) s.2.2.2.2.1 < s.2.2.2.2.1 := fun h => upF_lt _ (by omega)
  generalize upF (srF y 9) s.2.2.2.2.1 = i9 at *
  generalize upF y 4 = r at *
  generalize upF (srF y 2) 100 = nm
  generalize upF x 16 = w
  generalize anF y 3 = b3
  generalize anF y 7 = b7
  unfold actN
  split
  · split
    · exact op_ok k hb r
    · exact rm_ok k hb (hi9 (by assumption))
  split
  · split
    · exact op_ok k hb r
    · rename_i h9
      exact rn_ok k hb ht (hi9 (fun z => h9 (.inl z))) nm
  split
  · exact op_ok k hb r
  split
  · split
    · exact op_ok k hb r
    · exact sk_ok k hb hr hps2 (by assumption)
  split
  · split
    · exact op_ok k hb r
    · exact rl_ok k hb r
  split
  · split
    · exact op_ok k hb r
    · exact nx_ok k hb r
  split
  · split
    · exact op_ok k hb r
    · split
      · exact cl_ok k hb hr (by assumption)
      · exact nx_ok k hb r
  split
  · split
    · exact ⟨⟨kq, hq.more⟩, by show 0 ≤ ((q.2.2.2.2.1 : Nat) : Int); omega, by have := kq.1.1.1; show ((q.2.2.2.2.1 : Nat) : Int) < 70000; omega⟩
    · exact op_ok k hb r
  split
  · rename_i h9
    exact rm_ok k hb (fo_place h9)
  split
  · exact rm_ok k hb (by omega)
  · exact ad_ok k hb ht (by have := k.1.1.1; omega) nm
