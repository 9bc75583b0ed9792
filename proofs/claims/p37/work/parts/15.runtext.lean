/-! floats -/
section
variable {p : Program} {l : Launch} {e : Env} {R : Room} {s : State} {m : MethodId} {args : Array Value} {below : List Frame} {meth : Method} {c : Code} {cc : ByteArray} {own : String} {D : va_G} {ct : zCT} {A : Nat → Prop} {nL : Nat} {Q : State → Prop} {cells slots : Nat} {ws : va_W} {lv : List (Nat × Value)} {pc : Nat} {st : List Value} {Ts : List Cond}
theorem z_i2f {x : Int32} (Z : zC p s m args c cc own Ts nL D ct A) (hdg : decode cc pc = .ok (.i2f, 1))
    (kk : zW p l e R s m args below meth c D A nL Q cells slots ws lv (pc + 1) (.float (FP.i2f x) :: st)) : zW p l e R s m args below meth c D A nL Q cells slots ws lv pc (.int x :: st) :=
  fun H locs ls hP hD hS hl => lv_i2f Z.1.1 Z.1.2.1 hdg (kk H locs ls hP hD hS hl)
theorem z_fdiv {x y : UInt32} (Z : zC p s m args c cc own Ts nL D ct A) (hdg : decode cc pc = .ok (.fdiv, 1)) (hn : vf_n32 (FP.fdiv x y))
    (kk : zW p l e R s m args below meth c D A nL Q cells slots ws lv (pc + 1) (.float (FP.fdiv x y) :: st)) : zW p l e R s m args below meth c D A nL Q cells slots ws lv pc (.float y :: .float x :: st) :=
  fun H locs ls hP hD hS hl => lv_fdiv Z.1.1 Z.1.2.1 hdg hn (kk H locs ls hP hD hS hl)
end
theorem fdv_ok {c n : Nat} (hc : c ≤ 40) (h0 : 0 < n) (hn : n ≤ 64) : vf_n32 (FP.fdiv (FP.i2f (zI ((c : Nat) : Int))) (FP.i2f (zI ((n : Nat) : Int)))) := by
  have : ∀ c, c < 41 → ∀ n, n < 65 → 0 < n → FP.fdiv (FP.i2f (zI ((c : Nat) : Int))) (FP.i2f (zI ((n : Nat) : Int))) &&& 0x7fffffff ≤ 0x7f800000 := by decide +kernel
  exact this c (by omega) n (by omega) h0
theorem lcF_mono (dep : Nat → Nat) (a : Nat) : ∀ k, lcF dep a ≤ lcF dep (a + k)
  | 0 => Nat.le_refl _
  | k + 1 => Nat.le_trans (lcF_mono dep a k) (by show _ ≤ lcF dep (a + k) + _; omega)
theorem lcF_pos (dep : Nat → Nat) : 0 < lcF dep 64 := by
  have h1 : lcF dep 1 = 1 := by
    show lcF dep 0 + (if fhF 0 (dep 0) = 0 then 1 else 0) = 1
    rw [if_pos (by unfold fhF; simp)]
    rfl
  have : lcF dep 1 ≤ lcF dep 64 := lcF_mono dep 1 63
  omega
/-! the commands of a text, on a state -/
theorem zopt {α : Type} (x : Option α) : x = none ∨ ∃ y, x = some y := by cases x with
  | none => exact .inl rfl
  | some y => exact .inr ⟨y, rfl⟩
theorem ioF_rg (tx : Nat → Nat) (ch a b : Nat) : a ≤ ioF tx ch a b ∧ (a ≤ b → ioF tx ch a b ≤ b) := by
  have := fiF_le (chP tx ch a) (b - a)
  unfold ioF
  omega
def plS (nm : Nat) (s : StV) : Int := foF (nmP s.2.1 nm) s.2.2.2.2.1
def mkS (nm : Nat) (s : StV) : StV := (mkK s.1 s.2.2.2.2.1 nm s.2.2.2.2.2.2.2, mkN s.1 s.2.1 s.2.2.2.2.1 nm s.2.2.2.2.2.2.2, (mkT s.1 s.2.2.1 s.2.2.2.2.1 s.2.2.2.2.2.1 nm s.2.2.2.2.2.2.2).1, s.2.2.2.1, s.2.2.2.2.1 + 1, (mkT s.1 s.2.2.1 s.2.2.2.2.1 s.2.2.2.2.2.1 nm s.2.2.2.2.2.2.2).2, s.2.2.2.2.2.2.1, s.2.2.2.2.2.2.2 + 1)
def rmS (k : Nat) (s : StV) : StV := (shL s.1 k (s.2.2.2.2.1 - 1), shL s.2.1 k (s.2.2.2.2.1 - 1), (rmT s.1 s.2.2.1 s.2.2.2.2.1 s.2.2.2.2.2.2.1 k).1, s.2.2.2.1, s.2.2.2.2.1 - 1, s.2.2.2.2.2.1, (rmT s.1 s.2.2.1 s.2.2.2.2.1 s.2.2.2.2.2.2.1 k).2, s.2.2.2.2.2.2.2)
def adS (nm : Nat) (s : StV) : Option StV := if s.2.2.2.2.1 < 40 ∧ (s.2.2.2.2.2.2.2 < 1000 ∧ plS nm s = -1) then some (mkS nm s) else none
def reS (nm : Nat) (s : StV) : Option StV := if plS nm s ≠ -1 then some (rmS (plS nm s).toNat s) else none
def rnS (nm mm : Nat) (s : StV) : Option StV := if plS nm s ≠ -1 ∧ (s.2.2.2.2.2.2.2 < 1000 ∧ plS mm s = -1) then some (mkS mm (rmS (plS nm s).toNat s)) else none
def cmS (tx : Nat → Nat) (a b : Nat) (s : StV) : Option StV :=
  if tx a = 43 then adS (nbF tx (a + 1) b) s else if tx a = 45 then reS (nbF tx (a + 1) b) s else rnS (nbF tx a (ioF tx 61 a b)) (nbF tx (ioF tx 61 a b + 1) b) s
theorem cmS_add {tx : Nat → Nat} {a b : Nat} {s s9 : StV} (h : tx a = 43) (hok : cmS tx a b s = some s9) : (s.2.2.2.2.1 < 40 ∧ (s.2.2.2.2.2.2.2 < 1000 ∧ foF (nmP s.2.1 (nbF tx (a + 1) b)) s.2.2.2.2.1 = -1)) ∧ s9 = mkS (nbF tx (a + 1) b) s := by
  unfold cmS at hok; rw [if_pos h] at hok; unfold adS at hok
  split at hok
  · rename_i h1; exact ⟨h1, (Option.some.inj hok).symm⟩
  · cases hok
theorem cmS_addN {tx : Nat → Nat} {a b : Nat} {s : StV} (h : tx a = 43) (hok : cmS tx a b s = none) : ¬ (s.2.2.2.2.1 < 40 ∧ (s.2.2.2.2.2.2.2 < 1000 ∧ foF (nmP s.2.1 (nbF tx (a + 1) b)) s.2.2.2.2.1 = -1)) := by
  unfold cmS at hok; rw [if_pos h] at hok; unfold adS at hok
  split at hok
  · cases hok
  · rename_i h1; exact h1
theorem cmS_sub {tx : Nat → Nat} {a b : Nat} {s s9 : StV} (h : tx a = 45) (hok : cmS tx a b s = some s9) : foF (nmP s.2.1 (nbF tx (a + 1) b)) s.2.2.2.2.1 ≠ -1 ∧ s9 = rmS (foF (nmP s.2.1 (nbF tx (a + 1) b)) s.2.2.2.2.1).toNat s := by
  unfold cmS at hok; rw [if_neg (by omega), if_pos h] at hok; unfold reS at hok
  split at hok
  · rename_i h1; exact ⟨h1, (Option.some.inj hok).symm⟩
  · cases hok
theorem cmS_subN {tx : Nat → Nat} {a b : Nat} {s : StV} (h : tx a = 45) (hok : cmS tx a b s = none) : foF (nmP s.2.1 (nbF tx (a + 1) b)) s.2.2.2.2.1 = -1 := by
  unfold cmS at hok; rw [if_neg (by omega), if_pos h] at hok; unfold reS at hok
  split at hok
  · cases hok
  · rename_i h1; exact Classical.not_not.mp h1
theorem cmS_ren {tx : Nat → Nat} {a b : Nat} {s s9 : StV} (h : tx a ≠ 43) (h2 : tx a ≠ 45) (hok : cmS tx a b s = some s9) : foF (nmP s.2.1 (nbF tx a (ioF tx 61 a b))) s.2.2.2.2.1 ≠ -1 ∧ (s.2.2.2.2.2.2.2 < 1000 ∧ foF (nmP s.2.1 (nbF tx (ioF tx 61 a b + 1) b)) s.2.2.2.2.1 = -1) ∧ s9 = mkS (nbF tx (ioF tx 61 a b + 1) b) (rmS (foF (nmP s.2.1 (nbF tx a (ioF tx 61 a b))) s.2.2.2.2.1).toNat s) := by
  unfold cmS at hok; rw [if_neg h, if_neg h2] at hok; unfold rnS at hok
  split at hok
  · rename_i h1; exact ⟨h1.1, h1.2, (Option.some.inj hok).symm⟩
  · cases hok
theorem cmS_renN {tx : Nat → Nat} {a b : Nat} {s : StV} (h : tx a ≠ 43) (h2 : tx a ≠ 45) (hok : cmS tx a b s = none) : foF (nmP s.2.1 (nbF tx a (ioF tx 61 a b))) s.2.2.2.2.1 = -1 ∨ ¬ (s.2.2.2.2.2.2.2 < 1000 ∧ foF (nmP s.2.1 (nbF tx (ioF tx 61 a b + 1) b)) s.2.2.2.2.1 = -1) := by
  unfold cmS at hok; rw [if_neg h, if_neg h2] at hok; unfold rnS at hok
  split at hok
  · cases hok
  · rename_i h1
    by_cases h3 : foF (nmP s.2.1 (nbF tx a (ioF tx 61 a b))) s.2.2.2.2.1 = -1
    · exact .inl h3
    · exact .inr (fun h4 => h1 ⟨h3, h4⟩)
def okS (s : StV) : Prop := s.2.2.2.2.1 ≤ 40 ∧ (∀ j, j < 40 → s.1 j < 64000) ∧ (∀ j, j < 40 → s.2.1 j < 1073741824) ∧ (∀ j, j < 64 → s.2.2.1 j < 7) ∧ s.2.2.2.2.2.2.2 < 2000
theorem spF_lt {big : Nat → Bool} {h : Nat} : ∀ k d f n, d + k < 7 → (∀ j, j < 64 → f j < 7) → ∀ j, j < 64 → (spF big h k d (f, n)).1 j < 7
  | 0, d, f, n, _, hf => hf
  | k + 1, d, f, n, hd, hf => by
    show ∀ j, j < 64 → (if big d = true then spF big h k (d + 1) (seF f (fhF h d) (lhF h d + 1) (d + 1), n + 1) else (f, n)).1 j < 7
    split
    · exact spF_lt k (d + 1) _ _ (by omega) (seF_lt hf (by omega))
    · exact hf
theorem okS_mk {nm : Nat} {s : StV} (h : okS s) (hc : s.2.2.2.2.1 < 40) (hi : s.2.2.2.2.2.2.2 < 1000) (hm : nm < 1073741824) : okS (mkS nm s) := by
  obtain ⟨h1, h2, h3, h4, h5⟩ := h
  have hh := hsF_lt nm
  have h6 := h4 _ hh
  refine ⟨?_, inF_lt h2 hc (by omega), inF_lt h3 hc hm, spF_lt _ _ _ _ (by omega) h4, ?_⟩
  · show s.2.2.2.2.1 + 1 ≤ 40; omega
  · show s.2.2.2.2.2.2.2 + 1 < 2000; omega
theorem okS_rm {k : Nat} {s : StV} (h : okS s) (hk : k < 40) : okS (rmS k s) := by
  obtain ⟨h1, h2, h3, h4, h5⟩ := h
  refine ⟨?_, shL_lt h2 h1, shL_lt h3 h1, rmT_lt h2 h4 hk, h5⟩
  show s.2.2.2.2.1 - 1 ≤ 40; omega
theorem plS_lt {nm : Nat} {s : StV} (h : okS s) (h9 : plS nm s ≠ -1) : (plS nm s).toNat < 40 ∧ 0 < s.2.2.2.2.1 := by
  have h1 := foF_ge (nmP s.2.1 nm) s.2.2.2.2.1 h9
  have h2 := h.1
  unfold plS
  omega
theorem okS_cm {tx : Nat → Nat} {a b : Nat} {s s9 : StV} (h : okS s) (hok : cmS tx a b s = some s9) : okS s9 := by
  unfold cmS at hok
  split at hok
  · unfold adS at hok
    split at hok
    · rename_i h1; cases hok; exact okS_mk h h1.1 h1.2.1 (nbF_lt _ _ _)
    · cases hok
  · split at hok
    · unfold reS at hok
      split at hok
      · rename_i h1; cases hok; exact okS_rm h (plS_lt h h1).1
      · cases hok
    · unfold rnS at hok
      split at hok
      · rename_i h1; cases hok
        have h2 := plS_lt h h1.1
        have h3 := h.1
        refine okS_mk (okS_rm h h2.1) ?_ h1.2.1 (nbF_lt _ _ _)
        show s.2.2.2.2.1 - 1 < 40; omega
      · cases hok
/-- the commands from a place on: how many were executed, and the state -/
def rtF (tx : Nat → Nat) (len : Nat) : Nat → Nat → Nat → Nat → StV → Nat × StV
  | 0, _, _, ex, s => (ex, s)
  | k + 1, to, fr, ex, s => if len ≤ to ∨ tx to = 59 then (match cmS tx fr to s with
      | none => (ex, s)
      | some s9 => rtF tx len k (to + 1) (to + 1) (ex + 1) s9) else rtF tx len k (to + 1) fr ex s
theorem rtF_skip {tx : Nat → Nat} {len to fr ex : Nat} {s : StV} (ht : to ≤ len) (h : ¬ (len ≤ to ∨ tx to = 59)) : rtF tx len (len + 1 - to) to fr ex s = rtF tx len (len + 1 - (to + 1)) (to + 1) fr ex s := by
  obtain ⟨k, hk⟩ : ∃ k, len + 1 - to = k + 1 := ⟨len - to, by omega⟩
  rw [hk, show len + 1 - (to + 1) = k by omega]
  show (if len ≤ to ∨ tx to = 59 then _ else _) = _
  rw [if_neg h]
theorem rtF_cmd {tx : Nat → Nat} {len to fr ex : Nat} {s s9 : StV} (ht : to ≤ len) (h : len ≤ to ∨ tx to = 59) (h9 : cmS tx fr to s = some s9) : rtF tx len (len + 1 - to) to fr ex s = rtF tx len (len + 1 - (to + 1)) (to + 1) (to + 1) (ex + 1) s9 := by
  obtain ⟨k, hk⟩ : ∃ k, len + 1 - to = k + 1 := ⟨len - to, by omega⟩
  rw [hk, show len + 1 - (to + 1) = k by omega]
  show (if len ≤ to ∨ tx to = 59 then _ else _) = _
  rw [if_pos h, h9]
theorem rtF_stop {tx : Nat → Nat} {len to fr ex : Nat} {s : StV} {v : Nat × StV} (ht : to ≤ len) (h : len ≤ to ∨ tx to = 59) (h9 : cmS tx fr to s = none) (he : rtF tx len (len + 1 - to) to fr ex s = v) : (ex, s) = v := by
  obtain ⟨k, hk⟩ : ∃ k, len + 1 - to = k + 1 := ⟨len - to, by omega⟩
  rw [hk] at he
  rw [← he]
  show _ = (if len ≤ to ∨ tx to = 59 then _ else _)
  rw [if_pos h, h9]
theorem ceF_rg (tx : Nat → Nat) (len : Nat) : ∀ k i pt lt, i + k ≤ len → -2 ≤ ceF tx len k i pt lt ∧ ceF tx len k i pt lt ≤ len
  | 0, i, pt, lt, h => by unfold ceF; split <;> omega
  | k + 1, i, pt, lt, h => by
    unfold ceF
    split
    · omega
    · exact ceF_rg tx len k (i + 1) _ _ (by omega)
/-- where the parser is, in a valid text -/
def rtI (tx : Nat → Nat) (len fr to : Nat) : Prop := to ≤ len → ∃ pt lt, ceF tx len (len - to) to pt lt = -2 ∧ ((pt = 0 ∧ lt = 0 ∧ fr = to) ∨ (pt = 1 ∧ fr < to) ∨ (pt = 2 ∧ fr < to ∧ (tx fr = 43 ∨ tx fr = 45 ∨ ioF tx 61 fr to < to)))
theorem rtI_0 {tx : Nat → Nat} {len : Nat} (h : ceF tx len len 0 0 0 = -2) : rtI tx len 0 0 := fun _ => ⟨0, 0, h, .inl ⟨rfl, rfl, rfl⟩⟩
theorem ioF_lt {tx : Nat → Nat} {ch a b i : Nat} (h1 : a ≤ i) (h2 : i < b) (h3 : tx i = ch) : ioF tx ch a b < b := by
  have h5 := fiF_le (chP tx ch a) (b - a)
  rcases Nat.lt_or_ge (fiF (chP tx ch a) (b - a)) (b - a) with h | h
  · unfold ioF; omega
  · have := fiF_no (chP tx ch a) (b - a) (i - a) (by omega)
    unfold chP at this
    rw [show a + (i - a) = i by omega, h3, decide_eq_true rfl] at this
    cases this
theorem ioF_lt2 {tx : Nat → Nat} {ch a b c : Nat} (h1 : a ≤ b) (h : ioF tx ch a b < b) (hb : b ≤ c) : ioF tx ch a c < c := by
  have h5 := fiF_yes (chP tx ch a) (b - a) (by unfold ioF at h; omega)
  have h6 := ioF_rg tx ch a b
  refine ioF_lt (i := ioF tx ch a b) h6.1 (by omega) ?_
  unfold chP at h5
  exact of_decide_eq_true h5
theorem ceF_ok {tx : Nat → Nat} {len i pt lt : Nat} (hi : i < len) (h : ceF tx len (len - i) i pt lt = -2) : paC pt lt (tx i) ≠ 3 := by
  intro h3
  rw [ceF_bad hi h3] at h
  omega
theorem rtI_next {tx : Nat → Nat} {len fr to : Nat} (h : rtI tx len fr to) (ht : to ≤ len) (h5 : ¬ (len ≤ to ∨ tx to = 59)) : rtI tx len fr (to + 1) := by
  intro _
  obtain ⟨pt, lt, h1, h2⟩ := h ht
  have h3 := ceF_ok (by omega) h1
  rw [ceF_next (by omega) h3] at h1
  refine ⟨_, _, h1, ?_⟩
  have h6 := paC_lt pt lt (tx to) (by omega)
  have hfr : fr ≤ to := by omega
  have hq := fun (z : ioF tx 61 fr to < to) => ioF_lt2 hfr z (Nat.le_succ to)
  have hq2 := fun (z : tx to = 61) => ioF_lt (ch := 61) hfr (Nat.lt_succ_self to) z
  have h7 : pt = 2 → fr < to → tx fr = 43 ∨ tx fr = 45 ∨ ioF tx 61 fr to < to := by omega
  have h8 : pt = 0 → fr = to := by omega
  have h9 : pt = 0 ∨ pt = 1 ∨ pt = 2 := by omega
  have hlt : fr < to + 1 := by omega
  generalize hv : paC pt lt (tx to) = v at *
  unfold paC plF at hv
  by_cases hv0 : v = 0
  · exfalso
    rcases h9 with h9 | h9 | h9 <;> subst h9 <;> (repeat' split at hv) <;> omega
  · by_cases hv1 : v = 1
    · exact .inr (.inl ⟨hv1, hlt⟩)
    · have hv2 : v = 2 := by omega
      refine .inr (.inr ⟨hv2, hlt, ?_⟩)
      rcases h9 with h9 | h9 | h9
      · subst h9
        have := h8 rfl
        subst this
        (repeat' split at hv) <;> omega
      · subst h9
        right; right; apply hq2
        (repeat' split at hv) <;> omega
      · subst h9
        rcases h7 rfl (by omega) with h | h | h
        · exact .inl h
        · exact .inr (.inl h)
        · exact .inr (.inr (hq h))
theorem rtI_cmd {tx : Nat → Nat} {len fr to : Nat} (h : rtI tx len fr to) (ht : to ≤ len) (h5 : len ≤ to ∨ tx to = 59) : fr < to ∧ (tx fr = 43 ∨ tx fr = 45 ∨ ioF tx 61 fr to < to) := by
  obtain ⟨pt, lt, h1, h2⟩ := h ht
  have h9 : pt = 2 := by
    rcases Nat.lt_or_ge to len with h6 | h6
    · have h3 := ceF_ok h6 h1
      have h7 : tx to = 59 := by omega
      rw [h7] at h3
      unfold paC at h3
      rw [if_neg (by omega)] at h3
      (repeat' split at h3) <;> omega
    · rw [show len - to = 0 by omega] at h1
      unfold ceF at h1
      split at h1
      · omega
      · omega
  omega
theorem rtI_new {tx : Nat → Nat} {len fr to : Nat} (h : rtI tx len fr to) (ht : to ≤ len) (h5 : len ≤ to ∨ tx to = 59) : rtI tx len (to + 1) (to + 1) := by
  intro h6
  obtain ⟨pt, lt, h1, h2⟩ := h ht
  have h3 := ceF_ok (by omega) h1
  rw [ceF_next (by omega) h3] at h1
  refine ⟨_, _, h1, .inl ?_⟩
  have h7 : tx to = 59 := by omega
  rw [h7] at h3 ⊢
  rw [if_neg (by omega)]
  refine ⟨?_, rfl, rfl⟩
  unfold paC at h3 ⊢
  rw [if_neg (by omega)] at h3 ⊢
  (repeat' split at h3) <;> (repeat' split) <;> omega
theorem zin_X6_meanLeafSize_X6 : ∀ w ∈ wsX60, w ∈ wsX6_meanLeafSize := by decide +kernel
theorem zlk_X6_meanLeafSize_12 : Cond.fieldLink RX6 12 "HashedDirectory" "state" "LHashedDirectory$State;" ∈ wsX6_meanLeafSize := by decide +kernel
theorem zin_X6_meanLeafSize_X3 : ∀ w ∈ wsX30, w ∈ wsX6_meanLeafSize := by decide +kernel
theorem zlk_X6_meanLeafSize_180 : Cond.fieldLink RX6 180 "HashedDirectory$State" "tree" "LHashedDirectory$Tree;" ∈ wsX6_meanLeafSize := by decide +kernel
theorem zlk_X6_meanLeafSize_63 : Cond.fieldLink RX6 63 "HashedDirectory$State" "entries" "LHashedDirectory$Entries;" ∈ wsX6_meanLeafSize := by decide +kernel
theorem zin_X6_meanLeafSize_X0 : ∀ w ∈ wsX00, w ∈ wsX6_meanLeafSize := by decide +kernel
theorem zlk_X6_meanLeafSize_67 : Cond.fieldLink RX6 67 "HashedDirectory$Entries" "count" "I" ∈ wsX6_meanLeafSize := by decide +kernel
set_option maxHeartbeats 4000000 in
set_option maxRecDepth 100000 in
theorem zc_X6_meanLeafSize (l : Launch) (D : va_G) (ct : zCT) (hd : Nat) (tO : Nat) (aC : Nat) (aSl : Nat) (aFi : Nat) (h0 : Nat) (aE : Nat) (aT : Nat) (aP : Nat) (aK : Nat) (aN : Nat) (aD : Nat) (keys : Nat → Nat) (names : Nat → Nat) (dep : Nat → Nat) (pos : Nat → Int) (cnt : Nat) (sc : Nat) (mg : Nat) (ids : Nat) (hh : Nat) (aR : Nat) (old : Nat) (hc : Nat) (ff : Nat → Option Nat) (ra : Nat → Nat → Nat) (rv : Nat → StV) (fs : Nat → Option Nat) (fl : Nat → Int) (qa : Nat → Nat → Nat) (qv : Nat → StV) (tx : Nat → Nat) (len : Nat) (hc40 : cnt ≤ 40) (hk : ∀ j, j < 40 → keys j < 64000) (hn : ∀ j, j < 40 → names j < 1073741824) (hdp : ∀ j, j < 64 → dep j < 7) (hp : ∀ j, j < 4 → -2 ≤ pos j ∧ pos j < 64000) (hi : ids < 2000) (hold : old < 6) (hhc : hc ≤ 6) (hff : ∀ k, k < 6 → ff k = some (ra k 0)) (hfs : ∀ k, k < 2 → fs k = some (qa k 0)) (hfl : ∀ j, j < 2 → fl j = 0 ∨ fl j = 1) (hl : len ≤ 80) (ht : ∀ j, j < 80 → tx j < 128) : zMet l yX6_meanLeafSize wsX6_meanLeafSize ({ frames := 2, cells := 0, slots := 0, locals := 43 } : Room) D ct [.ref hd] ([zO hd 5 [.ref h0, .ref hh, .ref aSl, .ref aFi, .ref tO], zO h0 2 [.ref aE, .ref aT, .ref aP, zi ((ids : Nat) : Int)], zO aE 0 [.ref aK, .ref aN, zi ((cnt : Nat) : Int)], zAI ct aK 40 (zN keys), zAI ct aN 40 (zN names), zO aT 4 [.ref aD, zi ((sc : Nat) : Int), zi ((mg : Nat) : Int)], zAI ct aD 64 (zN dep), zAI ct aP 4 pos, zO tO 3 [.ref aC, zi ((len : Nat) : Int)], zAI ct aC 80 (zN tx), zO hh 1 [.ref aR, zi ((old : Nat) : Int), zi ((hc : Nat) : Int)], zAS ct aR 6 ff, zAS ct aSl 2 fs, zAZ ct aFi 2 fl] ++ (stR ct ra rv (List.range 6) ++ (stR ct qa qv (List.range 2)))) (fun _ : Unit => True) (fun _ => some (.float (FP.fdiv (FP.i2f (zI ((cnt : Nat) : Int))) (FP.i2f (zI ((lcF dep 64 : Nat) : Int)))))) (fun _ => ([zO hd 5 [.ref h0, .ref hh, .ref aSl, .ref aFi, .ref tO], zO h0 2 [.ref aE, .ref aT, .ref aP, zi ((ids : Nat) : Int)], zO aE 0 [.ref aK, .ref aN, zi ((cnt : Nat) : Int)], zAI ct aK 40 (zN keys), zAI ct aN 40 (zN names), zO aT 4 [.ref aD, zi ((sc : Nat) : Int), zi ((mg : Nat) : Int)], zAI ct aD 64 (zN dep), zAI ct aP 4 pos, zO tO 3 [.ref aC, zi ((len : Nat) : Int)], zAI ct aC 80 (zN tx), zO hh 1 [.ref aR, zi ((old : Nat) : Int), zi ((hc : Nat) : Int)], zAS ct aR 6 ff, zAS ct aSl 2 fs, zAZ ct aFi 2 fl] ++ (stR ct ra rv (List.range 6) ++ (stR ct qa qv (List.range 2))))) 0 0 := by
  refine zMet_f (cc := cX6_meanLeafSize) (maxL := 2) (r := fun _ => FP.fdiv (FP.i2f (zI ((cnt : Nat) : Int))) (FP.i2f (zI ((lcF dep 64 : Nat) : Int)))) (by decide) rfl (Nat.le_of_ble_eq_true rfl) ?_
  intro p e s m below meth c A Q Z hnm hR
  refine z_eqs _ [(0, .ref hd)] _ rfl rfl rfl ?_
  have hlp9 := lcF_pos dep
  have hll9 := lcF_le dep 64
  refine z_aload_n Z dX6_meanLeafSize_0 0 rfl ?_
  refine z_get Z dX6_meanLeafSize_1 zin_X6_meanLeafSize_X6 0 0 rfl rfl (by decide) zlk_X6_meanLeafSize_12 rfl ?_
  refine z_get Z dX6_meanLeafSize_4 zin_X6_meanLeafSize_X3 1 1 rfl rfl (by decide) zlk_X6_meanLeafSize_180 rfl ?_
  refine z_callVu (rest := []) Z dX6_meanLeafSize_7 4 5 _ _ rfl rfl rfl (zc_X5_leafCount l D ct (aT) (aD) (dep) (sc) (mg) (by first | assumption | omega)) (cwV 0 Z.1.2.2.2.2 gX6_meanLeafSize_X5_leafCount rfl rfl rfl (by decide +kernel) ⟨Nat.le_of_ble_eq_true rfl, Nat.le_of_ble_eq_true rfl⟩) rfl (Nat.le_of_ble_eq_true rfl) ⟨Nat.le_of_ble_eq_true rfl, Nat.le_of_ble_eq_true rfl⟩ [false, false, false, false, false, true, true, false, false, false, false, false, false, false] ([zO hd 5 [.ref h0, .ref hh, .ref aSl, .ref aFi, .ref tO], zO h0 2 [.ref aE, .ref aT, .ref aP, zi ((ids : Nat) : Int)], zO aE 0 [.ref aK, .ref aN, zi ((cnt : Nat) : Int)], zAI ct aK 40 (zN keys), zAI ct aN 40 (zN names), zO aT 4 [.ref aD, zi ((sc : Nat) : Int), zi ((mg : Nat) : Int)], zAI ct aD 64 (zN dep), zAI ct aP 4 pos, zO tO 3 [.ref aC, zi ((len : Nat) : Int)], zAI ct aC 80 (zN tx), zO hh 1 [.ref aR, zi ((old : Nat) : Int), zi ((hc : Nat) : Int)], zAS ct aR 6 ff, zAS ct aSl 2 fs, zAZ ct aFi 2 fl] ++ (stR ct ra rv (List.range 6) ++ (stR ct qa qv (List.range 2)))) [zi ((lcF dep 64 : Nat) : Int)] rfl rfl rfl rfl ?_
  refine z_istore_n Z dX6_meanLeafSize_10 [(1, zi ((lcF dep 64 : Nat) : Int)), (0, .ref hd)] (by decide) rfl ?_
  refine z_iload_n Z dX6_meanLeafSize_11 0 rfl ?_
  refine z_if_le Z 32 dX6_meanLeafSize_12 (by decide) (by omega) (fun h12 => ?_) (fun h12 => ?_)
  · exfalso; first | contradiction | omega
  · refine z_aload_n Z dX6_meanLeafSize_15 1 rfl ?_
    refine z_get Z dX6_meanLeafSize_16 zin_X6_meanLeafSize_X6 0 0 rfl rfl (by decide) zlk_X6_meanLeafSize_12 rfl ?_
    refine z_get Z dX6_meanLeafSize_19 zin_X6_meanLeafSize_X3 1 0 rfl rfl (by decide) zlk_X6_meanLeafSize_63 rfl ?_
    refine z_get Z dX6_meanLeafSize_22 zin_X6_meanLeafSize_X0 2 2 rfl rfl (by decide) zlk_X6_meanLeafSize_67 rfl ?_
    refine z_i2f Z dX6_meanLeafSize_25 ?_
    refine z_iload_n Z dX6_meanLeafSize_26 0 rfl ?_
    refine z_i2f Z dX6_meanLeafSize_27 ?_
    refine z_fdiv Z dX6_meanLeafSize_28 (fdv_ok hc40 (lcF_pos dep) (lcF_le dep 64)) ?_
    refine z_goto Z 33 dX6_meanLeafSize_29 (by decide) ?_
    refine z_eqs ([zO hd 5 [.ref h0, .ref hh, .ref aSl, .ref aFi, .ref tO], zO h0 2 [.ref aE, .ref aT, .ref aP, zi ((ids : Nat) : Int)], zO aE 0 [.ref aK, .ref aN, zi ((cnt : Nat) : Int)], zAI ct aK 40 (zN keys), zAI ct aN 40 (zN names), zO aT 4 [.ref aD, zi ((sc : Nat) : Int), zi ((mg : Nat) : Int)], zAI ct aD 64 (zN dep), zAI ct aP 4 pos, zO tO 3 [.ref aC, zi ((len : Nat) : Int)], zAI ct aC 80 (zN tx), zO hh 1 [.ref aR, zi ((old : Nat) : Int), zi ((hc : Nat) : Int)], zAS ct aR 6 ff, zAS ct aSl 2 fs, zAZ ct aFi 2 fl] ++ (stR ct ra rv (List.range 6) ++ (stR ct qa qv (List.range 2)))) _ [.float (FP.fdiv (FP.i2f (zI ((cnt : Nat) : Int))) (FP.i2f (zI ((lcF dep 64 : Nat) : Int))))] (rfl) rfl (rfl) ?_
    exact hR _ _ () trivial dX6_meanLeafSize_33
