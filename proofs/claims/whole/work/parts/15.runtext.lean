/-! floats -/
section
variable {p : Program} {l : Launch} {e : Env} {R : Room} {s : State} {m : MethodId} {args : Array Value} {below : List Frame} {meth : Method} {c : Code} {cc : ByteArray} {own : String} {D : va_G} {ct : zCT} {A : Nat → Prop} {nL : Nat} {Q : State → Prop} {cells slots : Nat} {ws : va_W} {lv : List (Nat × Value)} {pc : Nat} {st : List Value} {Ts : List Cond}
theorem z_i2f {x : Int32} (Z : zC p s m args c cc own Ts nL D ct A) (hdg : decode cc pc = .ok (.i2f, 1))
    (kk : zW p l e R s m args below meth c D A nL Q cells slots ws lv (pc + 1) (.float (FP.i2f x) :: st)) : zW p l e R s m args below meth c D A nL Q cells slots ws lv pc (.int x :: st) :=
  fun H locs ls hP hD hS hl => lv_i2f Z.1.1 Z.1.2.1 hdg (kk H locs ls hP hD hS hl)
theorem z_fdiv {x y : UInt32} (Z : zC p s m args c cc own Ts nL D ct A) (hdg : decode cc pc = .ok (.fdiv, 1)) (hn : vf_n32 (FP.fdiv x y))
    (kk : zW p l e R s m args below meth c D A nL Q cells slots ws lv (pc + 1) (.float (FP.fdiv x y) :: st)) : zW p l e R s m args below meth c D A nL Q cells slots ws lv pc (.float y :: .float x :: st) :=
  fun H locs ls hP hD hS hl => lv_fdiv Z.1.1 Z.1.2.1 hdg hn (kk H locs ls hP hD hS hl)
end
theorem fdv_ok {c n : Nat} (hc : c ≤ 40) (h0 : 0 < n) (hn : n ≤ 64) : vf_n32 (FP.fdiv (FP.i2f (zI ((c : Nat) : Int))) (FP.i2f (zI ((n : Nat) : Int)))) := by
  have : ∀ c, c < 41 → ∀ n, n < 65 → 0 < n → FP.fdiv (FP.i2f (zI ((c : Nat) : Int))) (FP.i2f (zI ((n : Nat) : Int))) &&& 0x7fffffff ≤ 0x7f800000 := by decide +kernel
  exact this c (by omega) n (by omega) h0
theorem lcF_mono (dep : Nat → Nat) (a : Nat) : ∀ k, lcF dep a ≤ lcF dep (a + k)
  | 0 => Nat.le_refl _
  | k + 1 => Nat.le_trans (lcF_mono dep a k) (by show _ ≤ lcF dep (a + k) + _; omega)
theorem lcF_pos (dep : Nat → Nat) : 0 < lcF dep 64 := by
  have h1 : lcF dep 1 = 1 := by
    show lcF dep 0 + (if fhF 0 (dep 0) = 0 then 1 else 0) = 1
    rw [if_pos (by unfold fhF; simp)]
    rfl
  have : lcF dep 1 ≤ lcF dep 64 := lcF_mono dep 1 63
  omega
/-! the commands of a text, on a state -/
theorem zopt {α : Type} (x : Option α) : x = none ∨ ∃ y, x = some y := by cases x with
  | none => exact .inl rfl
  | some y => exact .inr ⟨y, rfl⟩
theorem ioF_rg (tx : Nat → Nat) (ch a b : Nat) : a ≤ ioF tx ch a b ∧ (a ≤ b → ioF tx ch a b ≤ b) := by
  have := fiF_le (chP tx ch a) (b - a)
  unfold ioF
  omega
def plS (nm : Nat) (s : StV) : Int := foF (nmP s.2.1 nm) s.2.2.2.2.1
def mkS (nm : Nat) (s : StV) : StV := (mkK s.1 s.2.2.2.2.1 nm s.2.2.2.2.2.2.2, mkN s.1 s.2.1 s.2.2.2.2.1 nm s.2.2.2.2.2.2.2, (mkT s.1 s.2.2.1 s.2.2.2.2.1 s.2.2.2.2.2.1 nm s.2.2.2.2.2.2.2).1, s.2.2.2.1, s.2.2.2.2.1 + 1, (mkT s.1 s.2.2.1 s.2.2.2.2.1 s.2.2.2.2.2.1 nm s.2.2.2.2.2.2.2).2, s.2.2.2.2.2.2.1, s.2.2.2.2.2.2.2 + 1)
def rmS (k : Nat) (s : StV) : StV := (shL s.1 k (s.2.2.2.2.1 - 1), shL s.2.1 k (s.2.2.2.2.1 - 1), (rmT s.1 s.2.2.1 s.2.2.2.2.1 s.2.2.2.2.2.2.1 k).1, s.2.2.2.1, s.2.2.2.2.1 - 1, s.2.2.2.2.2.1, (rmT s.1 s.2.2.1 s.2.2.2.2.1 s.2.2.2.2.2.2.1 k).2, s.2.2.2.2.2.2.2)
def adS (nm : Nat) (s : StV) : Option StV := if s.2.2.2.2.1 < 40 ∧ (s.2.2.2.2.2.2.2 < 1000 ∧ plS nm s = -1) then some (mkS nm s) else none
def reS (nm : Nat) (s : StV) : Option StV := if plS nm s ≠ -1 then some (rmS (plS nm s).toNat s) else none
def rnS (nm mm : Nat) (s : StV) : Option StV := if plS nm s ≠ -1 ∧ (s.2.2.2.2.2.2.2 < 1000 ∧ plS mm s = -1) then some (mkS mm (rmS (plS nm s).toNat s)) else none
def cmS (tx : Nat → Nat) (a b : Nat) (s : StV) : Option StV :=
  if tx a = 43 then adS (nbF tx (a + 1) b) s else if tx a = 45 then reS (nbF tx (a + 1) b) s else rnS (nbF tx a (ioF tx 61 a b)) (nbF tx (ioF tx 61 a b + 1) b) s
theorem cmS_add {tx : Nat → Nat} {a b : Nat} {s s9 : StV} (h : tx a = 43) (hok : cmS tx a b s = some s9) : (s.2.2.2.2.1 < 40 ∧ (s.2.2.2.2.2.2.2 < 1000 ∧ foF (nmP s.2.1 (nbF tx (a + 1) b)) s.2.2.2.2.1 = -1)) ∧ s9 = mkS (nbF tx (a + 1) b) s := by
  unfold cmS at hok; rw [if_pos h] at hok; unfold adS at hok
  split at hok
  · rename_i h1; exact ⟨h1, (Option.some.inj hok).symm⟩
  · cases hok
theorem cmS_addN {tx : Nat → Nat} {a b : Nat} {s : StV} (h : tx a = 43) (hok : cmS tx a b s = none) : ¬ (s.2.2.2.2.1 < 40 ∧ (s.2.2.2.2.2.2.2 < 1000 ∧ foF (nmP s.2.1 (nbF tx (a + 1) b)) s.2.2.2.2.1 = -1)) := by
  unfold cmS at hok; rw [if_pos h] at hok; unfold adS at hok
  split at hok
  · cases hok
  · rename_i h1; exact h1
theorem cmS_sub {tx : Nat → Nat} {a b : Nat} {s s9 : StV} (h : tx a = 45) (hok : cmS tx a b s = some s9) : foF (nmP s.2.1 (nbF tx (a + 1) b)) s.2.2.2.2.1 ≠ -1 ∧ s9 = rmS (foF (nmP s.2.1 (nbF tx (a + 1) b)) s.2.2.2.2.1).toNat s := by
  unfold cmS at hok; rw [if_neg (by omega), if_pos h] at hok; unfold reS at hok
  split at hok
  · rename_i h1; exact ⟨h1, (Option.some.inj hok).symm⟩
  · cases hok
theorem cmS_subN {tx : Nat → Nat} {a b : Nat} {s : StV} (h : tx a = 45) (hok : cmS tx a b s = none) : foF (nmP s.2.1 (nbF tx (a + 1) b)) s.2.2.2.2.1 = -1 := by
  unfold cmS at hok; rw [if_neg (by omega), if_pos h] at hok; unfold reS at hok
  split at hok
  · cases hok
  · rename_i h1; exact Classical.not_not.mp h1
theorem cmS_ren {tx : Nat → Nat} {a b : Nat} {s s9 : StV} (h : tx a ≠ 43) (h2 : tx a ≠ 45) (hok : cmS tx a b s = some s9) : foF (nmP s.2.1 (nbF tx a (ioF tx 61 a b))) s.2.2.2.2.1 ≠ -1 ∧ (s.2.2.2.2.2.2.2 < 1000 ∧ foF (nmP s.2.1 (nbF tx (ioF tx 61 a b + 1) b)) s.2.2.2.2.1 = -1) ∧ s9 = mkS (nbF tx (ioF tx 61 a b + 1) b) (rmS (foF (nmP s.2.1 (nbF tx a (ioF tx 61 a b))) s.2.2.2.2.1).toNat s) := by
  unfold cmS at hok; rw [if_neg h, if_neg h2] at hok; unfold rnS at hok
  split at hok
  · rename_i h1; exact ⟨h1.1, h1.2, (Option.some.inj hok).symm⟩
  · cases hok
theorem cmS_renN {tx : Nat → Nat} {a b : Nat} {s : StV} (h : tx a ≠ 43) (h2 : tx a ≠ 45) (hok : cmS tx a b s = none) : foF (nmP s.2.1 (nbF tx a (ioF tx 61 a b))) s.2.2.2.2.1 = -1 ∨ ¬ (s.2.2.2.2.2.2.2 < 1000 ∧ foF (nmP s.2.1 (nbF tx (ioF tx 61 a b + 1) b)) s.2.2.2.2.1 = -1) := by
  unfold cmS at hok; rw [if_neg h, if_neg h2] at hok; unfold rnS at hok
  split at hok
  · cases hok
  · rename_i h1
    by_cases h3 : foF (nmP s.2.1 (nbF tx a (ioF tx 61 a b))) s.2.2.2.2.1 = -1
    · exact .inl h3
    · exact .inr (fun h4 => h1 ⟨h3, h4⟩)
def okS (s : StV) : Prop := s.2.2.2.2.1 ≤ 40 ∧ (∀ j, j < 40 → s.1 j < 64000) ∧ (∀ j, j < 40 → s.2.1 j < 1073741824) ∧ (∀ j, j < 64 → s.2.2.1 j < 7) ∧ s.2.2.2.2.2.2.2 < 2000
theorem spF_lt {big : Nat → Bool} {h : Nat} : ∀ k d f n, d + k < 7 → (∀ j, j < 64 → f j < 7) → ∀ j, j < 64 → (spF big h k d (f, n)).1 j < 7
  | 0, d, f, n, _, hf => hf
  | k + 1, d, f, n, hd, hf => by
    show ∀ j, j < 64 → (if big d = true then spF big h k (d + 1) (seF f (fhF h d) (lhF h d + 1) (d + 1), n + 1) else (f, n)).1 j < 7
    split
    · exact spF_lt k (d + 1) _ _ (by omega) (seF_lt hf (by omega))
    · exact hf
theorem okS_mk {nm : Nat} {s : StV} (h : okS s) (hc : s.2.2.2.2.1 < 40) (hi : s.2.2.2.2.2.2.2 < 1000) (hm : nm < 1073741824) : okS (mkS nm s) := by
  obtain ⟨h1, h2, h3, h4, h5⟩ := h
  have hh := hsF_lt nm
  have h6 := h4 _ hh
  refine ⟨?_, inF_lt h2 hc (by omega), inF_lt h3 hc hm, spF_lt _ _ _ _ (by omega) h4, ?_⟩
  · show s.2.2.2.2.1 + 1 ≤ 40; omega
  · show s.2.2.2.2.2.2.2 + 1 < 2000; omega
theorem okS_rm {k : Nat} {s : StV} (h : okS s) (hk : k < 40) : okS (rmS k s) := by
  obtain ⟨h1, h2, h3, h4, h5⟩ := h
  refine ⟨?_, shL_lt h2 h1, shL_lt h3 h1, rmT_lt h2 h4 hk, h5⟩
  show s.2.2.2.2.1 - 1 ≤ 40; omega
theorem plS_lt {nm : Nat} {s : StV} (h : okS s) (h9 : plS nm s ≠ -1) : (plS nm s).toNat < 40 ∧ 0 < s.2.2.2.2.1 := by
  have h1 := foF_ge (nmP s.2.1 nm) s.2.2.2.2.1 h9
  have h2 := h.1
  unfold plS
  omega
theorem okS_cm {tx : Nat → Nat} {a b : Nat} {s s9 : StV} (h : okS s) (hok : cmS tx a b s = some s9) : okS s9 := by
  unfold cmS at hok
  split at hok
  · unfold adS at hok
    split at hok
    · rename_i h1; cases hok; exact okS_mk h h1.1 h1.2.1 (nbF_lt _ _ _)
    · cases hok
  · split at hok
    · unfold reS at hok
      split at hok
      · rename_i h1; cases hok; exact okS_rm h (plS_lt h h1).1
      · cases hok
    · unfold rnS at hok
      split at hok
      · rename_i h1; cases hok
        have h2 := plS_lt h h1.1
        have h3 := h.1
        refine okS_mk (okS_rm h h2.1) ?_ h1.2.1 (nbF_lt _ _ _)
        show s.2.2.2.2.1 - 1 < 40; omega
      · cases hok
/-- the commands from a place on: how many were executed, and the state -/
def rtF (tx : Nat → Nat) (len : Nat) : Nat → Nat → Nat → Nat → StV → Nat × StV
  | 0, _, _, ex, s => (ex, s)
  | k + 1, to, fr, ex, s => if len ≤ to ∨ tx to = 59 then (match cmS tx fr to s with
      | none => (ex, s)
      | some s9 => rtF tx len k (to + 1) (to + 1) (ex + 1) s9) else rtF tx len k (to + 1) fr ex s
theorem rtF_skip {tx : Nat → Nat} {len to fr ex : Nat} {s : StV} (ht : to ≤ len) (h : ¬ (len ≤ to ∨ tx to = 59)) : rtF tx len (len + 1 - to) to fr ex s = rtF tx len (len + 1 - (to + 1)) (to + 1) fr ex s := by
  obtain ⟨k, hk⟩ : ∃ k, len + 1 - to = k + 1 := ⟨len - to, by omega⟩
  rw [hk, show len + 1 - (to + 1) = k by omega]
  show (if len ≤ to ∨ tx to = 59 then _ else _) = _
  rw [if_neg h]
theorem rtF_cmd {tx : Nat → Nat} {len to fr ex : Nat} {s s9 : StV} (ht : to ≤ len) (h : len ≤ to ∨ tx to = 59) (h9 : cmS tx fr to s = some s9) : rtF tx len (len + 1 - to) to fr ex s = rtF tx len (len + 1 - (to + 1)) (to + 1) (to + 1) (ex + 1) s9 := by
  obtain ⟨k, hk⟩ : ∃ k, len + 1 - to = k + 1 := ⟨len - to, by omega⟩
  rw [hk, show len + 1 - (to + 1) = k by omega]
  show (if len ≤ to ∨ tx to = 59 then _ else _) = _
  rw [if_pos h, h9]
theorem rtF_stop {tx : Nat → Nat} {len to fr ex : Nat} {s : StV} {v : Nat × StV} (ht : to ≤ len) (h : len ≤ to ∨ tx to = 59) (h9 : cmS tx fr to s = none) (he : rtF tx len (len + 1 - to) to fr ex s = v) : (ex, s) = v := by
  obtain ⟨k, hk⟩ : ∃ k, len + 1 - to = k + 1 := ⟨len - to, by omega⟩
  rw [hk] at he
  rw [← he]
  show _ = (if len ≤ to ∨ tx to = 59 then _ else _)
  rw [if_pos h, h9]
theorem ceF_rg (tx : Nat → Nat) (len : Nat) : ∀ k i pt lt, i + k ≤ len → -2 ≤ ceF tx len k i pt lt ∧ ceF tx len k i pt lt ≤ len
  | 0, i, pt, lt, h => by unfold ceF; split <;> omega
  | k + 1, i, pt, lt, h => by
    unfold ceF
    split
    · omega
    · exact ceF_rg tx len k (i + 1) _ _ (by omega)
/-- where the parser is, in a valid text -/
def rtI (tx : Nat → Nat) (len fr to : Nat) : Prop := to ≤ len → ∃ pt lt, ceF tx len (len - to) to pt lt = -2 ∧ ((pt = 0 ∧ lt = 0 ∧ fr = to) ∨ (pt = 1 ∧ fr < to) ∨ (pt = 2 ∧ fr < to ∧ (tx fr = 43 ∨ tx fr = 45 ∨ ioF tx 61 fr to < to)))
theorem rtI_0 {tx : Nat → Nat} {len : Nat} (h : ceF tx len len 0 0 0 = -2) : rtI tx len 0 0 := fun _ => ⟨0, 0, h, .inl ⟨rfl, rfl, rfl⟩⟩
theorem ioF_lt {tx : Nat → Nat} {ch a b i : Nat} (h1 : a ≤ i) (h2 : i < b) (h3 : tx i = ch) : ioF tx ch a b < b := by
  have h5 := fiF_le (chP tx ch a) (b - a)
  rcases Nat.lt_or_ge (fiF (chP tx ch a) (b - a)) (b - a) with h | h
  · unfold ioF; omega
  · have := fiF_no (chP tx ch a) (b - a) (i - a) (by omega)
    unfold chP at this
    rw [show a + (i - a) = i by omega, h3, decide_eq_true rfl] at this
    cases this
theorem ioF_lt2 {tx : Nat → Nat} {ch a b c : Nat} (h1 : a ≤ b) (h : ioF tx ch a b < b) (hb : b ≤ c) : ioF tx ch a c < c := by
  have h5 := fiF_yes (chP tx ch a) (b - a) (by unfold ioF at h; omega)
  have h6 := ioF_rg tx ch a b
  refine ioF_lt (i := ioF tx ch a b) h6.1 (by omega) ?_
  unfold chP at h5
  exact of_decide_eq_true h5
theorem ceF_ok {tx : Nat → Nat} {len i pt lt : Nat} (hi : i < len) (h : ceF tx len (len - i) i pt lt = -2) : paC pt lt (tx i) ≠ 3 := by
  intro h3
  rw [ceF_bad hi h3] at h
  omega
theorem rtI_next {tx : Nat → Nat} {len fr to : Nat} (h : rtI tx len fr to) (ht : to ≤ len) (h5 : ¬ (len ≤ to ∨ tx to = 59)) : rtI tx len fr (to + 1) := by
  intro _
  obtain ⟨pt, lt, h1, h2⟩ := h ht
  have h3 := ceF_ok (by omega) h1
  rw [ceF_next (by omega) h3] at h1
  refine ⟨_, _, h1, ?_⟩
  have h6 := paC_lt pt lt (tx to) (by omega)
  have hfr : fr ≤ to := by omega
  have hq := fun (z : ioF tx 61 fr to < to) => ioF_lt2 hfr z (Nat.le_succ to)
  have hq2 := fun (z : tx to = 61) => ioF_lt (ch := 61) hfr (Nat.lt_succ_self to) z
  have h7 : pt = 2 → fr < to → tx fr = 43 ∨ tx fr = 45 ∨ ioF tx 61 fr to < to := by omega
  have h8 : pt = 0 → fr = to := by omega
  have h9 : pt = 0 ∨ pt = 1 ∨ pt = 2 := by omega
  have hlt : fr < to + 1 := by omega
  generalize hv : paC pt lt (tx to) = v at *
  unfold paC plF at hv
  by_cases hv0 : v = 0
  · exfalso
    rcases h9 with h9 | h9 | h9 <;> subst h9 <;> (repeat' split at hv) <;> omega
  · by_cases hv1 : v = 1
    · exact .inr (.inl ⟨hv1, hlt⟩)
    · have hv2 : v = 2 := by omega
      refine .inr (.inr ⟨hv2, hlt, ?_⟩)
      rcases h9 with h9 | h9 | h9
      · subst h9
        have := h8 rfl
        subst this
        (repeat' split at hv) <;> omega
      · subst h9
        right; right; apply hq2
        (repeat' split at hv) <;> omega
      · subst h9
        rcases h7 rfl (by omega) with h | h | h
        · exact .inl h
        · exact .inr (.inl h)
        · exact .inr (.inr (hq h))
theorem rtI_cmd {tx : Nat → Nat} {len fr to : Nat} (h : rtI tx len fr to) (ht : to ≤ len) (h5 : len ≤ to ∨ tx to = 59) : fr < to ∧ (tx fr = 43 ∨ tx fr = 45 ∨ ioF tx 61 fr to < to) := by
  obtain ⟨pt, lt, h1, h2⟩ := h ht
  have h9 : pt = 2 := by
    rcases Nat.lt_or_ge to len with h6 | h6
    · have h3 := ceF_ok h6 h1
      have h7 : tx to = 59 := by omega
      rw [h7] at h3
      unfold paC at h3
      rw [if_neg (by omega)] at h3
      (repeat' split at h3) <;> omega
    · rw [show len - to = 0 by omega] at h1
      unfold ceF at h1
      split at h1
      · omega
      · omega
  omega
theorem rtI_new {tx : Nat → Nat} {len fr to : Nat} (h : rtI tx len fr to) (ht : to ≤ len) (h5 : len ≤ to ∨ tx to = 59) : rtI tx len (to + 1) (to + 1) := by
  intro h6
  obtain ⟨pt, lt, h1, h2⟩ := h ht
  have h3 := ceF_ok (by omega) h1
  rw [ceF_next (by omega) h3] at h1
  refine ⟨_, _, h1, .inl ?_⟩
  have h7 : tx to = 59 := by omega
  rw [h7] at h3 ⊢
  rw [if_neg (by omega)]
  refine ⟨?_, rfl, rfl⟩
  unfold paC at h3 ⊢
  rw [if_neg (by omega)] at h3 ⊢
  (repeat' split at h3) <;> (repeat' split) <;> omega
theorem zin_X6_runAdd_X6 : ∀ w ∈ wsX60, w ∈ wsX6_runAdd := by decide +kernel
theorem zlk_X6_runAdd_12 : Cond.fieldLink RX6 12 "HashedDirectory" "state" "LHashedDirectory$State;" ∈ wsX6_runAdd := by decide +kernel
set_option maxHeartbeats 4000000 in
set_option maxRecDepth 100000 in
theorem zc_X6_runAdd_t (l : Launch) (D : va_G) (ct : zCT) (hd : Nat) (tO : Nat) (aSl : Nat) (aFi : Nat) (h0 : Nat) (aE : Nat) (aT : Nat) (aP : Nat) (aK : Nat) (aN : Nat) (aD : Nat) (keys : Nat → Nat) (names : Nat → Nat) (dep : Nat → Nat) (pos : Nat → Int) (cnt : Nat) (sc : Nat) (mg : Nat) (ids : Nat) (hh : Nat) (nm : Nat) (hc40 : cnt ≤ 40) (hk : ∀ j, j < 40 → keys j < 64000) (hn : ∀ j, j < 40 → names j < 1073741824) (hdp : ∀ j, j < 64 → dep j < 7) (hi : ids < 2000) (hm : nm < 1073741824) (hadd : cnt < 40 ∧ (ids < 1000 ∧ foF (nmP names nm) cnt = -1)) : zMet l yX6_runAdd wsX6_runAdd ({ frames := 4, cells := 0, slots := 0, locals := 92 } : Room) D ct [.ref hd, zi ((nm : Nat) : Int)] [zO hd 5 [.ref h0, .ref hh, .ref aSl, .ref aFi, .ref tO], zO h0 2 [.ref aE, .ref aT, .ref aP, zi ((ids : Nat) : Int)], zO aE 0 [.ref aK, .ref aN, zi ((cnt : Nat) : Int)], zAI ct aK 40 (zN keys), zAI ct aN 40 (zN names), zO aT 4 [.ref aD, zi ((sc : Nat) : Int), zi ((mg : Nat) : Int)], zAI ct aD 64 (zN dep), zAI ct aP 4 pos] (fun _ : Unit => True) (fun _ => some (zi (zb (decide (0 = 0))))) (fun _ => [zO hd 5 [.ref h0, .ref hh, .ref aSl, .ref aFi, .ref tO], zO h0 2 [.ref aE, .ref aT, .ref aP, zi ((ids + 1 : Nat) : Int)], zO aE 0 [.ref aK, .ref aN, zi ((cnt + 1 : Nat) : Int)], zAI ct aK 40 (zN (mkK keys cnt nm ids)), zAI ct aN 40 (zN (mkN keys names cnt nm ids)), zO aT 4 [.ref aD, zi (((mkT keys dep cnt sc nm ids).2 : Nat) : Int), zi ((mg : Nat) : Int)], zAI ct aD 64 (zN ((mkT keys dep cnt sc nm ids).1)), zAI ct aP 4 pos]) 0 0 := by
  refine zMet_z (cc := cX6_runAdd) (maxL := 2) (r := fun _ => zb (decide (0 = 0))) (by decide) rfl (Nat.le_of_ble_eq_true rfl) (fun _ _ => zb_n _) ?_
  intro p e s m below meth c A Q Z hnm hR
  refine z_eqs _ [(0, .ref hd), (1, zi ((nm : Nat) : Int))] _ rfl rfl rfl ?_
  have hadd1 := hadd.1
  have hadd2 := hadd.2.1
  refine z_aload_n Z dX6_runAdd_0 0 rfl ?_
  refine z_get Z dX6_runAdd_1 zin_X6_runAdd_X6 0 0 rfl rfl (by decide) zlk_X6_runAdd_12 rfl ?_
  refine z_iload_n Z dX6_runAdd_4 1 rfl ?_
  refine z_callVu (rest := []) Z dX6_runAdd_5 2 1 _ _ rfl rfl rfl (zc_X3_canAdd l D ct (h0) (aE) (aT) (aP) (aK) (aN) (keys) (names) (cnt) (ids) (nm) (by first | assumption | omega) (by first | assumption | omega) (by first | assumption | omega) (by first | assumption | omega) (by first | assumption | omega)) (cwV 1 Z.1.2.2.2.2 gX6_runAdd_X3_canAdd rfl rfl rfl (by decide +kernel) ⟨Nat.le_of_ble_eq_true rfl, Nat.le_of_ble_eq_true rfl⟩) rfl (Nat.le_of_ble_eq_true rfl) ⟨Nat.le_of_ble_eq_true rfl, Nat.le_of_ble_eq_true rfl⟩ [false, true, true, true, true, false, false, false] [zO hd 5 [.ref h0, .ref hh, .ref aSl, .ref aFi, .ref tO], zO h0 2 [.ref aE, .ref aT, .ref aP, zi ((ids : Nat) : Int)], zO aE 0 [.ref aK, .ref aN, zi ((cnt : Nat) : Int)], zAI ct aK 40 (zN keys), zAI ct aN 40 (zN names), zO aT 4 [.ref aD, zi ((sc : Nat) : Int), zi ((mg : Nat) : Int)], zAI ct aD 64 (zN dep), zAI ct aP 4 pos] [zi (zb (decide (cnt < 40 ∧ (ids < 1000 ∧ foF (nmP names nm) cnt = -1))))] rfl rfl rfl rfl ?_
  refine z_ifb_ne Z 13 dX6_runAdd_8 (by decide) (fun h8 => ?_) (fun h8 => ?_)
  · have h8 := of_decide_eq_true h8
    refine z_aload_n Z dX6_runAdd_13 0 rfl ?_
    refine z_get Z dX6_runAdd_14 zin_X6_runAdd_X6 0 0 rfl rfl (by decide) zlk_X6_runAdd_12 rfl ?_
    refine z_iload_n Z dX6_runAdd_17 1 rfl ?_
    refine z_callVu (rest := []) Z dX6_runAdd_18 2 1 _ _ rfl rfl rfl (zc_X3_makeEntry l D ct (h0) (aE) (aT) (aP) (aK) (aN) (aD) (keys) (names) (dep) (cnt) (sc) (mg) (ids) (nm) (by first | assumption | omega) (by first | assumption | omega) (by first | assumption | omega) (by first | assumption | omega) (by first | assumption | omega)) (cwV 1 Z.1.2.2.2.2 gX6_runAdd_X3_makeEntry rfl rfl rfl (by decide +kernel) ⟨Nat.le_of_ble_eq_true rfl, Nat.le_of_ble_eq_true rfl⟩) rfl (Nat.le_of_ble_eq_true rfl) ⟨Nat.le_of_ble_eq_true rfl, Nat.le_of_ble_eq_true rfl⟩ [false, true, true, true, true, true, true, false] [zO hd 5 [.ref h0, .ref hh, .ref aSl, .ref aFi, .ref tO], zO h0 2 [.ref aE, .ref aT, .ref aP, zi ((ids + 1 : Nat) : Int)], zO aE 0 [.ref aK, .ref aN, zi ((cnt + 1 : Nat) : Int)], zAI ct aK 40 (zN (mkK keys cnt nm ids)), zAI ct aN 40 (zN (mkN keys names cnt nm ids)), zO aT 4 [.ref aD, zi (((mkT keys dep cnt sc nm ids).2 : Nat) : Int), zi ((mg : Nat) : Int)], zAI ct aD 64 (zN ((mkT keys dep cnt sc nm ids).1)), zAI ct aP 4 pos] [zi ((ids : Nat) : Int)] rfl rfl rfl rfl ?_
    refine z_pop Z dX6_runAdd_21 rfl ?_
    refine z_iconst (v := 1) Z dX6_runAdd_22 rfl ?_
    refine z_eqs [zO hd 5 [.ref h0, .ref hh, .ref aSl, .ref aFi, .ref tO], zO h0 2 [.ref aE, .ref aT, .ref aP, zi ((ids + 1 : Nat) : Int)], zO aE 0 [.ref aK, .ref aN, zi ((cnt + 1 : Nat) : Int)], zAI ct aK 40 (zN (mkK keys cnt nm ids)), zAI ct aN 40 (zN (mkN keys names cnt nm ids)), zO aT 4 [.ref aD, zi (((mkT keys dep cnt sc nm ids).2 : Nat) : Int), zi ((mg : Nat) : Int)], zAI ct aD 64 (zN ((mkT keys dep cnt sc nm ids).1)), zAI ct aP 4 pos] _ [zi (zb (decide (0 = 0)))] (rfl) rfl (congrArg (fun z => [zi z]) (zb_p _ (by omega))) ?_
    exact hR _ _ () trivial dX6_runAdd_23
  · have h8 := of_decide_eq_false h8
    exfalso; first | contradiction | omega
set_option maxHeartbeats 4000000 in
set_option maxRecDepth 100000 in
theorem zc_X6_runAdd_f (l : Launch) (D : va_G) (ct : zCT) (hd : Nat) (tO : Nat) (aSl : Nat) (aFi : Nat) (h0 : Nat) (aE : Nat) (aT : Nat) (aP : Nat) (aK : Nat) (aN : Nat) (aD : Nat) (keys : Nat → Nat) (names : Nat → Nat) (dep : Nat → Nat) (pos : Nat → Int) (cnt : Nat) (sc : Nat) (mg : Nat) (ids : Nat) (hh : Nat) (nm : Nat) (hc40 : cnt ≤ 40) (hk : ∀ j, j < 40 → keys j < 64000) (hn : ∀ j, j < 40 → names j < 1073741824) (hdp : ∀ j, j < 64 → dep j < 7) (hi : ids < 2000) (hm : nm < 1073741824) (hadd : ¬ (cnt < 40 ∧ (ids < 1000 ∧ foF (nmP names nm) cnt = -1))) : zMet l yX6_runAdd wsX6_runAdd ({ frames := 3, cells := 0, slots := 0, locals := 64 } : Room) D ct [.ref hd, zi ((nm : Nat) : Int)] [zO hd 5 [.ref h0, .ref hh, .ref aSl, .ref aFi, .ref tO], zO h0 2 [.ref aE, .ref aT, .ref aP, zi ((ids : Nat) : Int)], zO aE 0 [.ref aK, .ref aN, zi ((cnt : Nat) : Int)], zAI ct aK 40 (zN keys), zAI ct aN 40 (zN names), zO aT 4 [.ref aD, zi ((sc : Nat) : Int), zi ((mg : Nat) : Int)], zAI ct aD 64 (zN dep), zAI ct aP 4 pos] (fun _ : Unit => True) (fun _ => some (zi (zb (decide (1 = 0))))) (fun _ => [zO hd 5 [.ref h0, .ref hh, .ref aSl, .ref aFi, .ref tO], zO h0 2 [.ref aE, .ref aT, .ref aP, zi ((ids : Nat) : Int)], zO aE 0 [.ref aK, .ref aN, zi ((cnt : Nat) : Int)], zAI ct aK 40 (zN keys), zAI ct aN 40 (zN names), zO aT 4 [.ref aD, zi ((sc : Nat) : Int), zi ((mg : Nat) : Int)], zAI ct aD 64 (zN dep), zAI ct aP 4 pos]) 0 0 := by
  refine zMet_z (cc := cX6_runAdd) (maxL := 2) (r := fun _ => zb (decide (1 = 0))) (by decide) rfl (Nat.le_of_ble_eq_true rfl) (fun _ _ => zb_n _) ?_
  intro p e s m below meth c A Q Z hnm hR
  refine z_eqs _ [(0, .ref hd), (1, zi ((nm : Nat) : Int))] _ rfl rfl rfl ?_
  refine z_aload_n Z dX6_runAdd_0 0 rfl ?_
  refine z_get Z dX6_runAdd_1 zin_X6_runAdd_X6 0 0 rfl rfl (by decide) zlk_X6_runAdd_12 rfl ?_
  refine z_iload_n Z dX6_runAdd_4 1 rfl ?_
  refine z_callVu (rest := []) Z dX6_runAdd_5 2 1 _ _ rfl rfl rfl (zc_X3_canAdd l D ct (h0) (aE) (aT) (aP) (aK) (aN) (keys) (names) (cnt) (ids) (nm) (by first | assumption | omega) (by first | assumption | omega) (by first | assumption | omega) (by first | assumption | omega) (by first | assumption | omega)) (cwV 1 Z.1.2.2.2.2 gX6_runAdd_X3_canAdd rfl rfl rfl (by decide +kernel) ⟨Nat.le_of_ble_eq_true rfl, Nat.le_of_ble_eq_true rfl⟩) rfl (Nat.le_of_ble_eq_true rfl) ⟨Nat.le_of_ble_eq_true rfl, Nat.le_of_ble_eq_true rfl⟩ [false, true, true, true, true, false, false, false] [zO hd 5 [.ref h0, .ref hh, .ref aSl, .ref aFi, .ref tO], zO h0 2 [.ref aE, .ref aT, .ref aP, zi ((ids : Nat) : Int)], zO aE 0 [.ref aK, .ref aN, zi ((cnt : Nat) : Int)], zAI ct aK 40 (zN keys), zAI ct aN 40 (zN names), zO aT 4 [.ref aD, zi ((sc : Nat) : Int), zi ((mg : Nat) : Int)], zAI ct aD 64 (zN dep), zAI ct aP 4 pos] [zi (zb (decide (cnt < 40 ∧ (ids < 1000 ∧ foF (nmP names nm) cnt = -1))))] rfl rfl rfl rfl ?_
  refine z_ifb_ne Z 13 dX6_runAdd_8 (by decide) (fun h8 => ?_) (fun h8 => ?_)
  · have h8 := of_decide_eq_true h8
    exfalso; first | contradiction | omega
  · have h8 := of_decide_eq_false h8
    refine z_iconst (v := 0) Z dX6_runAdd_11 rfl ?_
    refine z_eqs [zO hd 5 [.ref h0, .ref hh, .ref aSl, .ref aFi, .ref tO], zO h0 2 [.ref aE, .ref aT, .ref aP, zi ((ids : Nat) : Int)], zO aE 0 [.ref aK, .ref aN, zi ((cnt : Nat) : Int)], zAI ct aK 40 (zN keys), zAI ct aN 40 (zN names), zO aT 4 [.ref aD, zi ((sc : Nat) : Int), zi ((mg : Nat) : Int)], zAI ct aD 64 (zN dep), zAI ct aP 4 pos] _ [zi (zb (decide (1 = 0)))] (rfl) rfl (congrArg (fun z => [zi z]) (zb_np _ (by omega))) ?_
    exact hR _ _ () trivial dX6_runAdd_12
theorem zin_X6_runRemove_X6 : ∀ w ∈ wsX60, w ∈ wsX6_runRemove := by decide +kernel
theorem zlk_X6_runRemove_12 : Cond.fieldLink RX6 12 "HashedDirectory" "state" "LHashedDirectory$State;" ∈ wsX6_runRemove := by decide +kernel
theorem zin_X6_runRemove_X3 : ∀ w ∈ wsX30, w ∈ wsX6_runRemove := by decide +kernel
theorem zlk_X6_runRemove_63 : Cond.fieldLink RX6 63 "HashedDirectory$State" "entries" "LHashedDirectory$Entries;" ∈ wsX6_runRemove := by decide +kernel
set_option maxHeartbeats 4000000 in
set_option maxRecDepth 100000 in
theorem zc_X6_runRemove_t (l : Launch) (D : va_G) (ct : zCT) (hd : Nat) (tO : Nat) (aSl : Nat) (aFi : Nat) (h0 : Nat) (aE : Nat) (aT : Nat) (aP : Nat) (aK : Nat) (aN : Nat) (aD : Nat) (keys : Nat → Nat) (names : Nat → Nat) (dep : Nat → Nat) (pos : Nat → Int) (cnt : Nat) (sc : Nat) (mg : Nat) (ids : Nat) (hh : Nat) (nm : Nat) (hc40 : cnt ≤ 40) (hk : ∀ j, j < 40 → keys j < 64000) (hn : ∀ j, j < 40 → names j < 1073741824) (hdp : ∀ j, j < 64 → dep j < 7) (hi : ids < 2000) (hm : nm < 1073741824) (hne : foF (nmP names nm) cnt ≠ -1) : zMet l yX6_runRemove wsX6_runRemove ({ frames := 4, cells := 0, slots := 0, locals := 92 } : Room) D ct [.ref hd, zi ((nm : Nat) : Int)] [zO hd 5 [.ref h0, .ref hh, .ref aSl, .ref aFi, .ref tO], zO h0 2 [.ref aE, .ref aT, .ref aP, zi ((ids : Nat) : Int)], zO aE 0 [.ref aK, .ref aN, zi ((cnt : Nat) : Int)], zAI ct aK 40 (zN keys), zAI ct aN 40 (zN names), zO aT 4 [.ref aD, zi ((sc : Nat) : Int), zi ((mg : Nat) : Int)], zAI ct aD 64 (zN dep), zAI ct aP 4 pos] (fun _ : Unit => True) (fun _ => some (zi (zb (decide (0 = 0))))) (fun _ => [zO hd 5 [.ref h0, .ref hh, .ref aSl, .ref aFi, .ref tO], zO h0 2 [.ref aE, .ref aT, .ref aP, zi ((ids : Nat) : Int)], zO aE 0 [.ref aK, .ref aN, zi ((cnt - 1 : Nat) : Int)], zAI ct aK 40 (zN (shL keys ((foF (nmP names nm) cnt).toNat) (cnt - 1))), zAI ct aN 40 (zN (shL names ((foF (nmP names nm) cnt).toNat) (cnt - 1))), zO aT 4 [.ref aD, zi ((sc : Nat) : Int), zi (((rmT keys dep cnt mg ((foF (nmP names nm) cnt).toNat)).2 : Nat) : Int)], zAI ct aD 64 (zN ((rmT keys dep cnt mg ((foF (nmP names nm) cnt).toNat)).1)), zAI ct aP 4 pos]) 0 0 := by
  refine zMet_z (cc := cX6_runRemove) (maxL := 3) (r := fun _ => zb (decide (0 = 0))) (by decide) rfl (Nat.le_of_ble_eq_true rfl) (fun _ _ => zb_n _) ?_
  intro p e s m below meth c A Q Z hnm hR
  refine z_eqs _ [(0, .ref hd), (1, zi ((nm : Nat) : Int))] _ rfl rfl rfl ?_
  have hf9 := foF_rg (nmP names nm) cnt
  have hf8 := foF_ge (nmP names nm) cnt
  refine z_aload_n Z dX6_runRemove_0 0 rfl ?_
  refine z_get Z dX6_runRemove_1 zin_X6_runRemove_X6 0 0 rfl rfl (by decide) zlk_X6_runRemove_12 rfl ?_
  refine z_get Z dX6_runRemove_4 zin_X6_runRemove_X3 1 0 rfl rfl (by decide) zlk_X6_runRemove_63 rfl ?_
  refine z_iload_n Z dX6_runRemove_7 1 rfl ?_
  refine z_callVu (rest := []) Z dX6_runRemove_8 0 2 _ _ rfl rfl rfl (zc_X0_placeOfName l D ct (aE) (aK) (aN) (keys) (names) (cnt) (nm) (by first | assumption | omega) (by first | assumption | omega) (by first | assumption | omega) (by first | assumption | omega)) (cwV 1 Z.1.2.2.2.2 gX6_runRemove_X0_placeOfName rfl rfl rfl (by decide +kernel) ⟨Nat.le_of_ble_eq_true rfl, Nat.le_of_ble_eq_true rfl⟩) rfl (Nat.le_of_ble_eq_true rfl) ⟨Nat.le_of_ble_eq_true rfl, Nat.le_of_ble_eq_true rfl⟩ [false, false, true, true, true, false, false, false] [zO hd 5 [.ref h0, .ref hh, .ref aSl, .ref aFi, .ref tO], zO h0 2 [.ref aE, .ref aT, .ref aP, zi ((ids : Nat) : Int)], zO aE 0 [.ref aK, .ref aN, zi ((cnt : Nat) : Int)], zAI ct aK 40 (zN keys), zAI ct aN 40 (zN names), zO aT 4 [.ref aD, zi ((sc : Nat) : Int), zi ((mg : Nat) : Int)], zAI ct aD 64 (zN dep), zAI ct aP 4 pos] [zi (foF (nmP names nm) cnt)] rfl rfl rfl rfl ?_
  refine z_istore_n Z dX6_runRemove_11 [(2, zi (foF (nmP names nm) cnt)), (0, .ref hd), (1, zi ((nm : Nat) : Int))] (by decide) rfl ?_
  refine z_iload_n Z dX6_runRemove_12 0 rfl ?_
  refine z_iconst (v := -1) Z dX6_runRemove_13 rfl ?_
  refine z_icmp_ne Z 19 dX6_runRemove_14 (by decide) (by omega) (by omega) (fun h14 => ?_) (fun h14 => ?_)
  · refine z_aload_n Z dX6_runRemove_19 1 rfl ?_
    refine z_get Z dX6_runRemove_20 zin_X6_runRemove_X6 0 0 rfl rfl (by decide) zlk_X6_runRemove_12 rfl ?_
    refine z_iload_n Z dX6_runRemove_23 0 rfl ?_
    refine z_top (y := (((foF (nmP names nm) cnt).toNat : Nat) : Int)) (by omega) ?_
    refine z_callVu (rest := []) Z dX6_runRemove_24 2 1 _ _ rfl rfl rfl (zc_X3_dropEntry l D ct (h0) (aE) (aT) (aP) (aK) (aN) (aD) (keys) (names) (dep) (cnt) (sc) (mg) (ids) ((foF (nmP names nm) cnt).toNat) (by first | assumption | omega) (by first | assumption | omega) (by first | assumption | omega) (by first | assumption | omega)) (cwV 1 Z.1.2.2.2.2 gX6_runRemove_X3_dropEntry rfl rfl rfl (by decide +kernel) ⟨Nat.le_of_ble_eq_true rfl, Nat.le_of_ble_eq_true rfl⟩) rfl (Nat.le_of_ble_eq_true rfl) ⟨Nat.le_of_ble_eq_true rfl, Nat.le_of_ble_eq_true rfl⟩ [false, true, true, true, true, true, true, false] [zO hd 5 [.ref h0, .ref hh, .ref aSl, .ref aFi, .ref tO], zO h0 2 [.ref aE, .ref aT, .ref aP, zi ((ids : Nat) : Int)], zO aE 0 [.ref aK, .ref aN, zi ((cnt - 1 : Nat) : Int)], zAI ct aK 40 (zN (shL keys ((foF (nmP names nm) cnt).toNat) (cnt - 1))), zAI ct aN 40 (zN (shL names ((foF (nmP names nm) cnt).toNat) (cnt - 1))), zO aT 4 [.ref aD, zi ((sc : Nat) : Int), zi (((rmT keys dep cnt mg ((foF (nmP names nm) cnt).toNat)).2 : Nat) : Int)], zAI ct aD 64 (zN ((rmT keys dep cnt mg ((foF (nmP names nm) cnt).toNat)).1)), zAI ct aP 4 pos] [] rfl rfl rfl rfl ?_
    refine z_iconst (v := 1) Z dX6_runRemove_27 rfl ?_
    refine z_eqs [zO hd 5 [.ref h0, .ref hh, .ref aSl, .ref aFi, .ref tO], zO h0 2 [.ref aE, .ref aT, .ref aP, zi ((ids : Nat) : Int)], zO aE 0 [.ref aK, .ref aN, zi ((cnt - 1 : Nat) : Int)], zAI ct aK 40 (zN (shL keys ((foF (nmP names nm) cnt).toNat) (cnt - 1))), zAI ct aN 40 (zN (shL names ((foF (nmP names nm) cnt).toNat) (cnt - 1))), zO aT 4 [.ref aD, zi ((sc : Nat) : Int), zi (((rmT keys dep cnt mg ((foF (nmP names nm) cnt).toNat)).2 : Nat) : Int)], zAI ct aD 64 (zN ((rmT keys dep cnt mg ((foF (nmP names nm) cnt).toNat)).1)), zAI ct aP 4 pos] _ [zi (zb (decide (0 = 0)))] (rfl) rfl (congrArg (fun z => [zi z]) (zb_p _ (by omega))) ?_
    exact hR _ _ () trivial dX6_runRemove_28
  · exfalso; first | contradiction | omega
set_option maxHeartbeats 4000000 in
set_option maxRecDepth 100000 in
theorem zc_X6_runRemove_f (l : Launch) (D : va_G) (ct : zCT) (hd : Nat) (tO : Nat) (aSl : Nat) (aFi : Nat) (h0 : Nat) (aE : Nat) (aT : Nat) (aP : Nat) (aK : Nat) (aN : Nat) (aD : Nat) (keys : Nat → Nat) (names : Nat → Nat) (dep : Nat → Nat) (pos : Nat → Int) (cnt : Nat) (sc : Nat) (mg : Nat) (ids : Nat) (hh : Nat) (nm : Nat) (hc40 : cnt ≤ 40) (hk : ∀ j, j < 40 → keys j < 64000) (hn : ∀ j, j < 40 → names j < 1073741824) (hdp : ∀ j, j < 64 → dep j < 7) (hi : ids < 2000) (hm : nm < 1073741824) (hne : foF (nmP names nm) cnt = -1) : zMet l yX6_runRemove wsX6_runRemove ({ frames := 1, cells := 0, slots := 0, locals := 22 } : Room) D ct [.ref hd, zi ((nm : Nat) : Int)] [zO hd 5 [.ref h0, .ref hh, .ref aSl, .ref aFi, .ref tO], zO h0 2 [.ref aE, .ref aT, .ref aP, zi ((ids : Nat) : Int)], zO aE 0 [.ref aK, .ref aN, zi ((cnt : Nat) : Int)], zAI ct aK 40 (zN keys), zAI ct aN 40 (zN names), zO aT 4 [.ref aD, zi ((sc : Nat) : Int), zi ((mg : Nat) : Int)], zAI ct aD 64 (zN dep), zAI ct aP 4 pos] (fun _ : Unit => True) (fun _ => some (zi (zb (decide (1 = 0))))) (fun _ => [zO hd 5 [.ref h0, .ref hh, .ref aSl, .ref aFi, .ref tO], zO h0 2 [.ref aE, .ref aT, .ref aP, zi ((ids : Nat) : Int)], zO aE 0 [.ref aK, .ref aN, zi ((cnt : Nat) : Int)], zAI ct aK 40 (zN keys), zAI ct aN 40 (zN names), zO aT 4 [.ref aD, zi ((sc : Nat) : Int), zi ((mg : Nat) : Int)], zAI ct aD 64 (zN dep), zAI ct aP 4 pos]) 0 0 := by
  refine zMet_z (cc := cX6_runRemove) (maxL := 3) (r := fun _ => zb (decide (1 = 0))) (by decide) rfl (Nat.le_of_ble_eq_true rfl) (fun _ _ => zb_n _) ?_
  intro p e s m below meth c A Q Z hnm hR
  refine z_eqs _ [(0, .ref hd), (1, zi ((nm : Nat) : Int))] _ rfl rfl rfl ?_
  have hf9 := foF_rg (nmP names nm) cnt
  have hf8 := foF_ge (nmP names nm) cnt
  refine z_aload_n Z dX6_runRemove_0 0 rfl ?_
  refine z_get Z dX6_runRemove_1 zin_X6_runRemove_X6 0 0 rfl rfl (by decide) zlk_X6_runRemove_12 rfl ?_
  refine z_get Z dX6_runRemove_4 zin_X6_runRemove_X3 1 0 rfl rfl (by decide) zlk_X6_runRemove_63 rfl ?_
  refine z_iload_n Z dX6_runRemove_7 1 rfl ?_
  refine z_callVu (rest := []) Z dX6_runRemove_8 0 2 _ _ rfl rfl rfl (zc_X0_placeOfName l D ct (aE) (aK) (aN) (keys) (names) (cnt) (nm) (by first | assumption | omega) (by first | assumption | omega) (by first | assumption | omega) (by first | assumption | omega)) (cwV 1 Z.1.2.2.2.2 gX6_runRemove_X0_placeOfName rfl rfl rfl (by decide +kernel) ⟨Nat.le_of_ble_eq_true rfl, Nat.le_of_ble_eq_true rfl⟩) rfl (Nat.le_of_ble_eq_true rfl) ⟨Nat.le_of_ble_eq_true rfl, Nat.le_of_ble_eq_true rfl⟩ [false, false, true, true, true, false, false, false] [zO hd 5 [.ref h0, .ref hh, .ref aSl, .ref aFi, .ref tO], zO h0 2 [.ref aE, .ref aT, .ref aP, zi ((ids : Nat) : Int)], zO aE 0 [.ref aK, .ref aN, zi ((cnt : Nat) : Int)], zAI ct aK 40 (zN keys), zAI ct aN 40 (zN names), zO aT 4 [.ref aD, zi ((sc : Nat) : Int), zi ((mg : Nat) : Int)], zAI ct aD 64 (zN dep), zAI ct aP 4 pos] [zi (foF (nmP names nm) cnt)] rfl rfl rfl rfl ?_
  refine z_istore_n Z dX6_runRemove_11 [(2, zi (foF (nmP names nm) cnt)), (0, .ref hd), (1, zi ((nm : Nat) : Int))] (by decide) rfl ?_
  refine z_iload_n Z dX6_runRemove_12 0 rfl ?_
  refine z_iconst (v := -1) Z dX6_runRemove_13 rfl ?_
  refine z_icmp_ne Z 19 dX6_runRemove_14 (by decide) (by omega) (by omega) (fun h14 => ?_) (fun h14 => ?_)
  · exfalso; first | contradiction | omega
  · refine z_iconst (v := 0) Z dX6_runRemove_17 rfl ?_
    refine z_eqs [zO hd 5 [.ref h0, .ref hh, .ref aSl, .ref aFi, .ref tO], zO h0 2 [.ref aE, .ref aT, .ref aP, zi ((ids : Nat) : Int)], zO aE 0 [.ref aK, .ref aN, zi ((cnt : Nat) : Int)], zAI ct aK 40 (zN keys), zAI ct aN 40 (zN names), zO aT 4 [.ref aD, zi ((sc : Nat) : Int), zi ((mg : Nat) : Int)], zAI ct aD 64 (zN dep), zAI ct aP 4 pos] _ [zi (zb (decide (1 = 0)))] (rfl) rfl (congrArg (fun z => [zi z]) (zb_np _ (by omega))) ?_
    exact hR _ _ () trivial dX6_runRemove_18
theorem zin_X6_runRename_X6 : ∀ w ∈ wsX60, w ∈ wsX6_runRename := by decide +kernel
theorem zlk_X6_runRename_12 : Cond.fieldLink RX6 12 "HashedDirectory" "state" "LHashedDirectory$State;" ∈ wsX6_runRename := by decide +kernel
theorem zin_X6_runRename_X3 : ∀ w ∈ wsX30, w ∈ wsX6_runRename := by decide +kernel
theorem zlk_X6_runRename_63 : Cond.fieldLink RX6 63 "HashedDirectory$State" "entries" "LHashedDirectory$Entries;" ∈ wsX6_runRename := by decide +kernel
set_option maxHeartbeats 4000000 in
set_option maxRecDepth 100000 in
theorem zc_X6_runRename_t (l : Launch) (D : va_G) (ct : zCT) (hd : Nat) (tO : Nat) (aSl : Nat) (aFi : Nat) (h0 : Nat) (aE : Nat) (aT : Nat) (aP : Nat) (aK : Nat) (aN : Nat) (aD : Nat) (keys : Nat → Nat) (names : Nat → Nat) (dep : Nat → Nat) (pos : Nat → Int) (cnt : Nat) (sc : Nat) (mg : Nat) (ids : Nat) (hh : Nat) (nm : Nat) (mm : Nat) (hc40 : cnt ≤ 40) (hk : ∀ j, j < 40 → keys j < 64000) (hn : ∀ j, j < 40 → names j < 1073741824) (hdp : ∀ j, j < 64 → dep j < 7) (hi : ids < 2000) (hm : nm < 1073741824) (hmm : mm < 1073741824) (hne : foF (nmP names nm) cnt ≠ -1) (hcr : ids < 1000 ∧ foF (nmP names mm) cnt = -1) : zMet l yX6_runRename wsX6_runRename ({ frames := 4, cells := 0, slots := 0, locals := 92 } : Room) D ct [.ref hd, zi ((nm : Nat) : Int), zi ((mm : Nat) : Int)] [zO hd 5 [.ref h0, .ref hh, .ref aSl, .ref aFi, .ref tO], zO h0 2 [.ref aE, .ref aT, .ref aP, zi ((ids : Nat) : Int)], zO aE 0 [.ref aK, .ref aN, zi ((cnt : Nat) : Int)], zAI ct aK 40 (zN keys), zAI ct aN 40 (zN names), zO aT 4 [.ref aD, zi ((sc : Nat) : Int), zi ((mg : Nat) : Int)], zAI ct aD 64 (zN dep), zAI ct aP 4 pos] (fun _ : Unit => True) (fun _ => some (zi (zb (decide (0 = 0))))) (fun _ => [zO hd 5 [.ref h0, .ref hh, .ref aSl, .ref aFi, .ref tO], zO h0 2 [.ref aE, .ref aT, .ref aP, zi ((ids + 1 : Nat) : Int)], zO aE 0 [.ref aK, .ref aN, zi ((cnt - 1 + 1 : Nat) : Int)], zAI ct aK 40 (zN (mkK (shL keys ((foF (nmP names nm) cnt).toNat) (cnt - 1)) (cnt - 1) mm ids)), zAI ct aN 40 (zN (mkN (shL keys ((foF (nmP names nm) cnt).toNat) (cnt - 1)) (shL names ((foF (nmP names nm) cnt).toNat) (cnt - 1)) (cnt - 1) mm ids)), zO aT 4 [.ref aD, zi (((mkT (shL keys ((foF (nmP names nm) cnt).toNat) (cnt - 1)) ((rmT keys dep cnt mg ((foF (nmP names nm) cnt).toNat)).1) (cnt - 1) sc mm ids).2 : Nat) : Int), zi (((rmT keys dep cnt mg ((foF (nmP names nm) cnt).toNat)).2 : Nat) : Int)], zAI ct aD 64 (zN ((mkT (shL keys ((foF (nmP names nm) cnt).toNat) (cnt - 1)) ((rmT keys dep cnt mg ((foF (nmP names nm) cnt).toNat)).1) (cnt - 1) sc mm ids).1)), zAI ct aP 4 pos]) 0 0 := by
  refine zMet_z (cc := cX6_runRename) (maxL := 4) (r := fun _ => zb (decide (0 = 0))) (by decide) rfl (Nat.le_of_ble_eq_true rfl) (fun _ _ => zb_n _) ?_
  intro p e s m below meth c A Q Z hnm hR
  refine z_eqs _ [(0, .ref hd), (1, zi ((nm : Nat) : Int)), (2, zi ((mm : Nat) : Int))] _ rfl rfl rfl ?_
  have hf9 := foF_rg (nmP names nm) cnt
  have hf8 := foF_ge (nmP names nm) cnt
  have hg9 := foF_rg (nmP names mm) cnt
  have hcr1 := hcr.1
  refine z_aload_n Z dX6_runRename_0 0 rfl ?_
  refine z_get Z dX6_runRename_1 zin_X6_runRename_X6 0 0 rfl rfl (by decide) zlk_X6_runRename_12 rfl ?_
  refine z_get Z dX6_runRename_4 zin_X6_runRename_X3 1 0 rfl rfl (by decide) zlk_X6_runRename_63 rfl ?_
  refine z_iload_n Z dX6_runRename_7 1 rfl ?_
  refine z_callVu (rest := []) Z dX6_runRename_8 0 2 _ _ rfl rfl rfl (zc_X0_placeOfName l D ct (aE) (aK) (aN) (keys) (names) (cnt) (nm) (by first | assumption | omega) (by first | assumption | omega) (by first | assumption | omega) (by first | assumption | omega)) (cwV 1 Z.1.2.2.2.2 gX6_runRename_X0_placeOfName rfl rfl rfl (by decide +kernel) ⟨Nat.le_of_ble_eq_true rfl, Nat.le_of_ble_eq_true rfl⟩) rfl (Nat.le_of_ble_eq_true rfl) ⟨Nat.le_of_ble_eq_true rfl, Nat.le_of_ble_eq_true rfl⟩ [false, false, true, true, true, false, false, false] [zO hd 5 [.ref h0, .ref hh, .ref aSl, .ref aFi, .ref tO], zO h0 2 [.ref aE, .ref aT, .ref aP, zi ((ids : Nat) : Int)], zO aE 0 [.ref aK, .ref aN, zi ((cnt : Nat) : Int)], zAI ct aK 40 (zN keys), zAI ct aN 40 (zN names), zO aT 4 [.ref aD, zi ((sc : Nat) : Int), zi ((mg : Nat) : Int)], zAI ct aD 64 (zN dep), zAI ct aP 4 pos] [zi (foF (nmP names nm) cnt)] rfl rfl rfl rfl ?_
  refine z_istore_n Z dX6_runRename_11 [(3, zi (foF (nmP names nm) cnt)), (0, .ref hd), (1, zi ((nm : Nat) : Int)), (2, zi ((mm : Nat) : Int))] (by decide) rfl ?_
  refine z_iload_n Z dX6_runRename_12 0 rfl ?_
  refine z_iconst (v := -1) Z dX6_runRename_13 rfl ?_
  refine z_icmp_eq Z 28 dX6_runRename_14 (by decide) (by omega) (by omega) (fun h14 => ?_) (fun h14 => ?_)
  · exfalso; first | contradiction | omega
  · refine z_aload_n Z dX6_runRename_17 1 rfl ?_
    refine z_get Z dX6_runRename_18 zin_X6_runRename_X6 0 0 rfl rfl (by decide) zlk_X6_runRename_12 rfl ?_
    refine z_iload_n Z dX6_runRename_21 3 rfl ?_
    refine z_callVu (rest := []) Z dX6_runRename_22 2 1 _ _ rfl rfl rfl (zc_X3_canRenameTo l D ct (h0) (aE) (aT) (aP) (aK) (aN) (keys) (names) (cnt) (ids) (mm) (by first | assumption | omega) (by first | assumption | omega) (by first | assumption | omega) (by first | assumption | omega) (by first | assumption | omega)) (cwV 1 Z.1.2.2.2.2 gX6_runRename_X3_canRenameTo rfl rfl rfl (by decide +kernel) ⟨Nat.le_of_ble_eq_true rfl, Nat.le_of_ble_eq_true rfl⟩) rfl (Nat.le_of_ble_eq_true rfl) ⟨Nat.le_of_ble_eq_true rfl, Nat.le_of_ble_eq_true rfl⟩ [false, true, true, true, true, false, false, false] [zO hd 5 [.ref h0, .ref hh, .ref aSl, .ref aFi, .ref tO], zO h0 2 [.ref aE, .ref aT, .ref aP, zi ((ids : Nat) : Int)], zO aE 0 [.ref aK, .ref aN, zi ((cnt : Nat) : Int)], zAI ct aK 40 (zN keys), zAI ct aN 40 (zN names), zO aT 4 [.ref aD, zi ((sc : Nat) : Int), zi ((mg : Nat) : Int)], zAI ct aD 64 (zN dep), zAI ct aP 4 pos] [zi (zb (decide (ids < 1000 ∧ foF (nmP names mm) cnt = -1)))] rfl rfl rfl rfl ?_
    refine z_ifb_ne Z 30 dX6_runRename_25 (by decide) (fun h25 => ?_) (fun h25 => ?_)
    · have h25 := of_decide_eq_true h25
      refine z_aload_n Z dX6_runRename_30 1 rfl ?_
      refine z_get Z dX6_runRename_31 zin_X6_runRename_X6 0 0 rfl rfl (by decide) zlk_X6_runRename_12 rfl ?_
      refine z_iload_n Z dX6_runRename_34 0 rfl ?_
      refine z_top (y := (((foF (nmP names nm) cnt).toNat : Nat) : Int)) (by omega) ?_
      refine z_callVu (rest := []) Z dX6_runRename_35 2 1 _ _ rfl rfl rfl (zc_X3_dropEntry l D ct (h0) (aE) (aT) (aP) (aK) (aN) (aD) (keys) (names) (dep) (cnt) (sc) (mg) (ids) ((foF (nmP names nm) cnt).toNat) (by first | assumption | omega) (by first | assumption | omega) (by first | assumption | omega) (by first | assumption | omega)) (cwV 1 Z.1.2.2.2.2 gX6_runRename_X3_dropEntry rfl rfl rfl (by decide +kernel) ⟨Nat.le_of_ble_eq_true rfl, Nat.le_of_ble_eq_true rfl⟩) rfl (Nat.le_of_ble_eq_true rfl) ⟨Nat.le_of_ble_eq_true rfl, Nat.le_of_ble_eq_true rfl⟩ [false, true, true, true, true, true, true, false] [zO hd 5 [.ref h0, .ref hh, .ref aSl, .ref aFi, .ref tO], zO h0 2 [.ref aE, .ref aT, .ref aP, zi ((ids : Nat) : Int)], zO aE 0 [.ref aK, .ref aN, zi ((cnt - 1 : Nat) : Int)], zAI ct aK 40 (zN (shL keys ((foF (nmP names nm) cnt).toNat) (cnt - 1))), zAI ct aN 40 (zN (shL names ((foF (nmP names nm) cnt).toNat) (cnt - 1))), zO aT 4 [.ref aD, zi ((sc : Nat) : Int), zi (((rmT keys dep cnt mg ((foF (nmP names nm) cnt).toNat)).2 : Nat) : Int)], zAI ct aD 64 (zN ((rmT keys dep cnt mg ((foF (nmP names nm) cnt).toNat)).1)), zAI ct aP 4 pos] [] rfl rfl rfl rfl ?_
      refine z_aload_n Z dX6_runRename_38 1 rfl ?_
      refine z_get Z dX6_runRename_39 zin_X6_runRename_X6 0 0 rfl rfl (by decide) zlk_X6_runRename_12 rfl ?_
      refine z_iload_n Z dX6_runRename_42 3 rfl ?_
      refine z_callVu (rest := []) Z dX6_runRename_43 2 1 _ _ rfl rfl rfl (zc_X3_makeEntry l D ct (h0) (aE) (aT) (aP) (aK) (aN) (aD) (shL keys ((foF (nmP names nm) cnt).toNat) (cnt - 1)) (shL names ((foF (nmP names nm) cnt).toNat) (cnt - 1)) ((rmT keys dep cnt mg ((foF (nmP names nm) cnt).toNat)).1) (cnt - 1) (sc) ((rmT keys dep cnt mg ((foF (nmP names nm) cnt).toNat)).2) (ids) (mm) (by first | assumption | omega) (shL_lt hk hc40) (rmT_lt hk hdp (by omega)) (by first | assumption | omega) (by first | assumption | omega)) (cwV 1 Z.1.2.2.2.2 gX6_runRename_X3_makeEntry rfl rfl rfl (by decide +kernel) ⟨Nat.le_of_ble_eq_true rfl, Nat.le_of_ble_eq_true rfl⟩) rfl (Nat.le_of_ble_eq_true rfl) ⟨Nat.le_of_ble_eq_true rfl, Nat.le_of_ble_eq_true rfl⟩ [false, true, true, true, true, true, true, false] [zO hd 5 [.ref h0, .ref hh, .ref aSl, .ref aFi, .ref tO], zO h0 2 [.ref aE, .ref aT, .ref aP, zi ((ids + 1 : Nat) : Int)], zO aE 0 [.ref aK, .ref aN, zi (((cnt - 1) + 1 : Nat) : Int)], zAI ct aK 40 (zN (mkK (shL keys ((foF (nmP names nm) cnt).toNat) (cnt - 1)) (cnt - 1) mm ids)), zAI ct aN 40 (zN (mkN (shL keys ((foF (nmP names nm) cnt).toNat) (cnt - 1)) (shL names ((foF (nmP names nm) cnt).toNat) (cnt - 1)) (cnt - 1) mm ids)), zO aT 4 [.ref aD, zi (((mkT (shL keys ((foF (nmP names nm) cnt).toNat) (cnt - 1)) ((rmT keys dep cnt mg ((foF (nmP names nm) cnt).toNat)).1) (cnt - 1) sc mm ids).2 : Nat) : Int), zi ((((rmT keys dep cnt mg ((foF (nmP names nm) cnt).toNat)).2) : Nat) : Int)], zAI ct aD 64 (zN ((mkT (shL keys ((foF (nmP names nm) cnt).toNat) (cnt - 1)) ((rmT keys dep cnt mg ((foF (nmP names nm) cnt).toNat)).1) (cnt - 1) sc mm ids).1)), zAI ct aP 4 pos] [zi ((ids : Nat) : Int)] rfl rfl rfl rfl ?_
      refine z_pop Z dX6_runRename_46 rfl ?_
      refine z_iconst (v := 1) Z dX6_runRename_47 rfl ?_
      refine z_eqs [zO hd 5 [.ref h0, .ref hh, .ref aSl, .ref aFi, .ref tO], zO h0 2 [.ref aE, .ref aT, .ref aP, zi ((ids + 1 : Nat) : Int)], zO aE 0 [.ref aK, .ref aN, zi ((cnt - 1 + 1 : Nat) : Int)], zAI ct aK 40 (zN (mkK (shL keys ((foF (nmP names nm) cnt).toNat) (cnt - 1)) (cnt - 1) mm ids)), zAI ct aN 40 (zN (mkN (shL keys ((foF (nmP names nm) cnt).toNat) (cnt - 1)) (shL names ((foF (nmP names nm) cnt).toNat) (cnt - 1)) (cnt - 1) mm ids)), zO aT 4 [.ref aD, zi (((mkT (shL keys ((foF (nmP names nm) cnt).toNat) (cnt - 1)) ((rmT keys dep cnt mg ((foF (nmP names nm) cnt).toNat)).1) (cnt - 1) sc mm ids).2 : Nat) : Int), zi (((rmT keys dep cnt mg ((foF (nmP names nm) cnt).toNat)).2 : Nat) : Int)], zAI ct aD 64 (zN ((mkT (shL keys ((foF (nmP names nm) cnt).toNat) (cnt - 1)) ((rmT keys dep cnt mg ((foF (nmP names nm) cnt).toNat)).1) (cnt - 1) sc mm ids).1)), zAI ct aP 4 pos] _ [zi (zb (decide (0 = 0)))] (rfl) rfl (congrArg (fun z => [zi z]) (zb_p _ (by omega))) ?_
      exact hR _ _ () trivial dX6_runRename_48
    · have h25 := of_decide_eq_false h25
      exfalso; first | contradiction | omega
set_option maxHeartbeats 4000000 in
set_option maxRecDepth 100000 in
theorem zc_X6_runRename_f (l : Launch) (D : va_G) (ct : zCT) (hd : Nat) (tO : Nat) (aSl : Nat) (aFi : Nat) (h0 : Nat) (aE : Nat) (aT : Nat) (aP : Nat) (aK : Nat) (aN : Nat) (aD : Nat) (keys : Nat → Nat) (names : Nat → Nat) (dep : Nat → Nat) (pos : Nat → Int) (cnt : Nat) (sc : Nat) (mg : Nat) (ids : Nat) (hh : Nat) (nm : Nat) (mm : Nat) (hc40 : cnt ≤ 40) (hk : ∀ j, j < 40 → keys j < 64000) (hn : ∀ j, j < 40 → names j < 1073741824) (hdp : ∀ j, j < 64 → dep j < 7) (hi : ids < 2000) (hm : nm < 1073741824) (hmm : mm < 1073741824) (hne : foF (nmP names nm) cnt = -1 ∨ ¬ (ids < 1000 ∧ foF (nmP names mm) cnt = -1)) : zMet l yX6_runRename wsX6_runRename ({ frames := 2, cells := 0, slots := 0, locals := 43 } : Room) D ct [.ref hd, zi ((nm : Nat) : Int), zi ((mm : Nat) : Int)] [zO hd 5 [.ref h0, .ref hh, .ref aSl, .ref aFi, .ref tO], zO h0 2 [.ref aE, .ref aT, .ref aP, zi ((ids : Nat) : Int)], zO aE 0 [.ref aK, .ref aN, zi ((cnt : Nat) : Int)], zAI ct aK 40 (zN keys), zAI ct aN 40 (zN names), zO aT 4 [.ref aD, zi ((sc : Nat) : Int), zi ((mg : Nat) : Int)], zAI ct aD 64 (zN dep), zAI ct aP 4 pos] (fun _ : Unit => True) (fun _ => some (zi (zb (decide (1 = 0))))) (fun _ => [zO hd 5 [.ref h0, .ref hh, .ref aSl, .ref aFi, .ref tO], zO h0 2 [.ref aE, .ref aT, .ref aP, zi ((ids : Nat) : Int)], zO aE 0 [.ref aK, .ref aN, zi ((cnt : Nat) : Int)], zAI ct aK 40 (zN keys), zAI ct aN 40 (zN names), zO aT 4 [.ref aD, zi ((sc : Nat) : Int), zi ((mg : Nat) : Int)], zAI ct aD 64 (zN dep), zAI ct aP 4 pos]) 0 0 := by
  refine zMet_z (cc := cX6_runRename) (maxL := 4) (r := fun _ => zb (decide (1 = 0))) (by decide) rfl (Nat.le_of_ble_eq_true rfl) (fun _ _ => zb_n _) ?_
  intro p e s m below meth c A Q Z hnm hR
  refine z_eqs _ [(0, .ref hd), (1, zi ((nm : Nat) : Int)), (2, zi ((mm : Nat) : Int))] _ rfl rfl rfl ?_
  have hf9 := foF_rg (nmP names nm) cnt
  have hf8 := foF_ge (nmP names nm) cnt
  have hg9 := foF_rg (nmP names mm) cnt
  refine z_aload_n Z dX6_runRename_0 0 rfl ?_
  refine z_get Z dX6_runRename_1 zin_X6_runRename_X6 0 0 rfl rfl (by decide) zlk_X6_runRename_12 rfl ?_
  refine z_get Z dX6_runRename_4 zin_X6_runRename_X3 1 0 rfl rfl (by decide) zlk_X6_runRename_63 rfl ?_
  refine z_iload_n Z dX6_runRename_7 1 rfl ?_
  refine z_callVu (rest := []) Z dX6_runRename_8 0 2 _ _ rfl rfl rfl (zc_X0_placeOfName l D ct (aE) (aK) (aN) (keys) (names) (cnt) (nm) (by first | assumption | omega) (by first | assumption | omega) (by first | assumption | omega) (by first | assumption | omega)) (cwV 1 Z.1.2.2.2.2 gX6_runRename_X0_placeOfName rfl rfl rfl (by decide +kernel) ⟨Nat.le_of_ble_eq_true rfl, Nat.le_of_ble_eq_true rfl⟩) rfl (Nat.le_of_ble_eq_true rfl) ⟨Nat.le_of_ble_eq_true rfl, Nat.le_of_ble_eq_true rfl⟩ [false, false, true, true, true, false, false, false] [zO hd 5 [.ref h0, .ref hh, .ref aSl, .ref aFi, .ref tO], zO h0 2 [.ref aE, .ref aT, .ref aP, zi ((ids : Nat) : Int)], zO aE 0 [.ref aK, .ref aN, zi ((cnt : Nat) : Int)], zAI ct aK 40 (zN keys), zAI ct aN 40 (zN names), zO aT 4 [.ref aD, zi ((sc : Nat) : Int), zi ((mg : Nat) : Int)], zAI ct aD 64 (zN dep), zAI ct aP 4 pos] [zi (foF (nmP names nm) cnt)] rfl rfl rfl rfl ?_
  refine z_istore_n Z dX6_runRename_11 [(3, zi (foF (nmP names nm) cnt)), (0, .ref hd), (1, zi ((nm : Nat) : Int)), (2, zi ((mm : Nat) : Int))] (by decide) rfl ?_
  refine z_iload_n Z dX6_runRename_12 0 rfl ?_
  refine z_iconst (v := -1) Z dX6_runRename_13 rfl ?_
  refine z_icmp_eq Z 28 dX6_runRename_14 (by decide) (by omega) (by omega) (fun h14 => ?_) (fun h14 => ?_)
  · refine z_iconst (v := 0) Z dX6_runRename_28 rfl ?_
    refine z_eqs [zO hd 5 [.ref h0, .ref hh, .ref aSl, .ref aFi, .ref tO], zO h0 2 [.ref aE, .ref aT, .ref aP, zi ((ids : Nat) : Int)], zO aE 0 [.ref aK, .ref aN, zi ((cnt : Nat) : Int)], zAI ct aK 40 (zN keys), zAI ct aN 40 (zN names), zO aT 4 [.ref aD, zi ((sc : Nat) : Int), zi ((mg : Nat) : Int)], zAI ct aD 64 (zN dep), zAI ct aP 4 pos] _ [zi (zb (decide (1 = 0)))] (rfl) rfl (congrArg (fun z => [zi z]) (zb_np _ (by omega))) ?_
    exact hR _ _ () trivial dX6_runRename_29
  · refine z_aload_n Z dX6_runRename_17 1 rfl ?_
    refine z_get Z dX6_runRename_18 zin_X6_runRename_X6 0 0 rfl rfl (by decide) zlk_X6_runRename_12 rfl ?_
    refine z_iload_n Z dX6_runRename_21 3 rfl ?_
    refine z_callVu (rest := []) Z dX6_runRename_22 2 1 _ _ rfl rfl rfl (zc_X3_canRenameTo l D ct (h0) (aE) (aT) (aP) (aK) (aN) (keys) (names) (cnt) (ids) (mm) (by first | assumption | omega) (by first | assumption | omega) (by first | assumption | omega) (by first | assumption | omega) (by first | assumption | omega)) (cwV 1 Z.1.2.2.2.2 gX6_runRename_X3_canRenameTo rfl rfl rfl (by decide +kernel) ⟨Nat.le_of_ble_eq_true rfl, Nat.le_of_ble_eq_true rfl⟩) rfl (Nat.le_of_ble_eq_true rfl) ⟨Nat.le_of_ble_eq_true rfl, Nat.le_of_ble_eq_true rfl⟩ [false, true, true, true, true, false, false, false] [zO hd 5 [.ref h0, .ref hh, .ref aSl, .ref aFi, .ref tO], zO h0 2 [.ref aE, .ref aT, .ref aP, zi ((ids : Nat) : Int)], zO aE 0 [.ref aK, .ref aN, zi ((cnt : Nat) : Int)], zAI ct aK 40 (zN keys), zAI ct aN 40 (zN names), zO aT 4 [.ref aD, zi ((sc : Nat) : Int), zi ((mg : Nat) : Int)], zAI ct aD 64 (zN dep), zAI ct aP 4 pos] [zi (zb (decide (ids < 1000 ∧ foF (nmP names mm) cnt = -1)))] rfl rfl rfl rfl ?_
    refine z_ifb_ne Z 30 dX6_runRename_25 (by decide) (fun h25 => ?_) (fun h25 => ?_)
    · have h25 := of_decide_eq_true h25
      exfalso; first | contradiction | omega
    · have h25 := of_decide_eq_false h25
      refine z_iconst (v := 0) Z dX6_runRename_28 rfl ?_
      refine z_eqs [zO hd 5 [.ref h0, .ref hh, .ref aSl, .ref aFi, .ref tO], zO h0 2 [.ref aE, .ref aT, .ref aP, zi ((ids : Nat) : Int)], zO aE 0 [.ref aK, .ref aN, zi ((cnt : Nat) : Int)], zAI ct aK 40 (zN keys), zAI ct aN 40 (zN names), zO aT 4 [.ref aD, zi ((sc : Nat) : Int), zi ((mg : Nat) : Int)], zAI ct aD 64 (zN dep), zAI ct aP 4 pos] _ [zi (zb (decide (1 = 0)))] (rfl) rfl (congrArg (fun z => [zi z]) (zb_np _ (by omega))) ?_
      exact hR _ _ () trivial dX6_runRename_29
theorem zin_X6_runCommand_X6 : ∀ w ∈ wsX60, w ∈ wsX6_runCommand := by decide +kernel
theorem zlk_X6_runCommand_34 : Cond.fieldLink RX6 34 "HashedDirectory" "text" "LHashedDirectory$Text;" ∈ wsX6_runCommand := by decide +kernel
set_option maxHeartbeats 4000000 in
set_option maxRecDepth 100000 in
theorem zc_X6_runCommand_t (l : Launch) (D : va_G) (ct : zCT) (hd : Nat) (tO : Nat) (aC : Nat) (aSl : Nat) (aFi : Nat) (h0 : Nat) (aE : Nat) (aT : Nat) (aP : Nat) (aK : Nat) (aN : Nat) (aD : Nat) (keys : Nat → Nat) (names : Nat → Nat) (dep : Nat → Nat) (pos : Nat → Int) (cnt : Nat) (sc : Nat) (mg : Nat) (ids : Nat) (hh : Nat) (tx : Nat → Nat) (len : Nat) (a : Nat) (b : Nat) (s9 : StV) (hc40 : cnt ≤ 40) (hk : ∀ j, j < 40 → keys j < 64000) (hn : ∀ j, j < 40 → names j < 1073741824) (hdp : ∀ j, j < 64 → dep j < 7) (hi : ids < 2000) (hl : len ≤ 80) (ht : ∀ j, j < 80 → tx j < 128) (ha : a < b) (hb : b ≤ 80) (hq : tx a = 43 ∨ tx a = 45 ∨ ioF tx 61 a b < b) (hok : cmS tx a b (keys, names, dep, pos, cnt, sc, mg, ids) = some s9) : zMet l yX6_runCommand wsX6_runCommand ({ frames := 5, cells := 0, slots := 0, locals := 115 } : Room) D ct [.ref hd, zi ((a : Nat) : Int), zi ((b : Nat) : Int)] [zO hd 5 [.ref h0, .ref hh, .ref aSl, .ref aFi, .ref tO], zO h0 2 [.ref aE, .ref aT, .ref aP, zi ((ids : Nat) : Int)], zO aE 0 [.ref aK, .ref aN, zi ((cnt : Nat) : Int)], zAI ct aK 40 (zN keys), zAI ct aN 40 (zN names), zO aT 4 [.ref aD, zi ((sc : Nat) : Int), zi ((mg : Nat) : Int)], zAI ct aD 64 (zN dep), zAI ct aP 4 pos, zO tO 3 [.ref aC, zi ((len : Nat) : Int)], zAI ct aC 80 (zN tx)] (fun _ : Unit => True) (fun _ => some (zi (zb (decide (0 = 0))))) (fun _ => [zO hd 5 [.ref h0, .ref hh, .ref aSl, .ref aFi, .ref tO], zO h0 2 [.ref aE, .ref aT, .ref aP, zi ((s9.2.2.2.2.2.2.2 : Nat) : Int)], zO aE 0 [.ref aK, .ref aN, zi ((s9.2.2.2.2.1 : Nat) : Int)], zAI ct aK 40 (zN (s9.1)), zAI ct aN 40 (zN (s9.2.1)), zO aT 4 [.ref aD, zi ((s9.2.2.2.2.2.1 : Nat) : Int), zi ((s9.2.2.2.2.2.2.1 : Nat) : Int)], zAI ct aD 64 (zN (s9.2.2.1)), zAI ct aP 4 (s9.2.2.2.1), zO tO 3 [.ref aC, zi ((len : Nat) : Int)], zAI ct aC 80 (zN tx)]) 0 0 := by
  refine zMet_z (cc := cX6_runCommand) (maxL := 5) (r := fun _ => zb (decide (0 = 0))) (by decide) rfl (Nat.le_of_ble_eq_true rfl) (fun _ _ => zb_n _) ?_
  intro p e s m below meth c A Q Z hnm hR
  refine z_eqs _ [(0, .ref hd), (1, zi ((a : Nat) : Int)), (2, zi ((b : Nat) : Int))] _ rfl rfl rfl ?_
  have hta := ht a (by omega)
  have hio := ioF_rg tx 61 a b
  refine z_aload_n Z dX6_runCommand_0 0 rfl ?_
  refine z_get Z dX6_runCommand_1 zin_X6_runCommand_X6 0 4 rfl rfl (by decide) zlk_X6_runCommand_34 rfl ?_
  refine z_iload_n Z dX6_runCommand_4 1 rfl ?_
  refine z_callVu (rest := []) Z dX6_runCommand_5 3 8 _ _ rfl rfl rfl (zc_X4_charIn l D ct (tO) (aC) (tx) (len) (a) (by first | assumption | omega)) (cwV 1 Z.1.2.2.2.2 gX6_runCommand_X4_charIn rfl rfl rfl (by decide +kernel) ⟨Nat.le_of_ble_eq_true rfl, Nat.le_of_ble_eq_true rfl⟩) rfl (Nat.le_of_ble_eq_true rfl) ⟨Nat.le_of_ble_eq_true rfl, Nat.le_of_ble_eq_true rfl⟩ [false, false, false, false, false, false, false, false, true, true] [zO hd 5 [.ref h0, .ref hh, .ref aSl, .ref aFi, .ref tO], zO h0 2 [.ref aE, .ref aT, .ref aP, zi ((ids : Nat) : Int)], zO aE 0 [.ref aK, .ref aN, zi ((cnt : Nat) : Int)], zAI ct aK 40 (zN keys), zAI ct aN 40 (zN names), zO aT 4 [.ref aD, zi ((sc : Nat) : Int), zi ((mg : Nat) : Int)], zAI ct aD 64 (zN dep), zAI ct aP 4 pos, zO tO 3 [.ref aC, zi ((len : Nat) : Int)], zAI ct aC 80 (zN tx)] [zi ((tx a : Nat) : Int)] rfl rfl rfl rfl ?_
  refine z_istore_n Z dX6_runCommand_8 [(3, zi ((tx a : Nat) : Int)), (0, .ref hd), (1, zi ((a : Nat) : Int)), (2, zi ((b : Nat) : Int))] (by decide) rfl ?_
  refine z_iload_n Z dX6_runCommand_9 0 rfl ?_
  refine z_bipush (v := 43) Z dX6_runCommand_10 (by decide +kernel) ?_
  refine z_icmp_ne Z 31 dX6_runCommand_12 (by decide) (by omega) (by omega) (fun h12 => ?_) (fun h12 => ?_)
  · refine z_iload_n Z dX6_runCommand_31 0 rfl ?_
    refine z_bipush (v := 45) Z dX6_runCommand_32 (by decide +kernel) ?_
    refine z_icmp_ne Z 53 dX6_runCommand_34 (by decide) (by omega) (by omega) (fun h34 => ?_) (fun h34 => ?_)
    · have hr9 := cmS_ren (by omega) (by omega) hok
      have hnb1 := nbF_lt tx a (ioF tx 61 a b)
      have hnb2 := nbF_lt tx ((ioF tx 61 a b) + 1) b
      refine z_aload_n Z dX6_runCommand_53 1 rfl ?_
      refine z_get Z dX6_runCommand_54 zin_X6_runCommand_X6 0 4 rfl rfl (by decide) zlk_X6_runCommand_34 rfl ?_
      refine z_bipush (v := 61) Z dX6_runCommand_57 (by decide +kernel) ?_
      refine z_iload_n Z dX6_runCommand_59 2 rfl ?_
      refine z_iload_n Z dX6_runCommand_60 3 rfl ?_
      refine z_callVu (rest := []) Z dX6_runCommand_61 3 8 _ _ rfl rfl rfl (zc_X4_indexOf l D ct (tO) (aC) (tx) (len) (61) (a) (b) (by first | assumption | omega) (by first | assumption | omega) (by decide) (by omega) (by first | assumption | omega)) (cwV 3 Z.1.2.2.2.2 gX6_runCommand_X4_indexOf rfl rfl rfl (by decide +kernel) ⟨Nat.le_of_ble_eq_true rfl, Nat.le_of_ble_eq_true rfl⟩) rfl (Nat.le_of_ble_eq_true rfl) ⟨Nat.le_of_ble_eq_true rfl, Nat.le_of_ble_eq_true rfl⟩ [false, false, false, false, false, false, false, false, true, true] [zO hd 5 [.ref h0, .ref hh, .ref aSl, .ref aFi, .ref tO], zO h0 2 [.ref aE, .ref aT, .ref aP, zi ((ids : Nat) : Int)], zO aE 0 [.ref aK, .ref aN, zi ((cnt : Nat) : Int)], zAI ct aK 40 (zN keys), zAI ct aN 40 (zN names), zO aT 4 [.ref aD, zi ((sc : Nat) : Int), zi ((mg : Nat) : Int)], zAI ct aD 64 (zN dep), zAI ct aP 4 pos, zO tO 3 [.ref aC, zi ((len : Nat) : Int)], zAI ct aC 80 (zN tx)] [zi ((ioF tx 61 a b : Nat) : Int)] rfl rfl rfl rfl ?_
      refine z_istore Z dX6_runCommand_64 [(4, zi ((ioF tx 61 a b : Nat) : Int)), (3, zi ((tx a : Nat) : Int)), (0, .ref hd), (1, zi ((a : Nat) : Int)), (2, zi ((b : Nat) : Int))] (by decide) rfl ?_
      refine z_aload_n Z dX6_runCommand_66 2 rfl ?_
      refine z_aload_n Z dX6_runCommand_67 2 rfl ?_
      refine z_get Z dX6_runCommand_68 zin_X6_runCommand_X6 0 4 rfl rfl (by decide) zlk_X6_runCommand_34 rfl ?_
      refine z_iload_n Z dX6_runCommand_71 3 rfl ?_
      refine z_iload Z dX6_runCommand_72 0 rfl ?_
      refine z_callVu (rest := [.ref hd]) Z dX6_runCommand_74 3 8 _ _ rfl rfl rfl (zc_X4_nameBetween l D ct (tO) (aC) (tx) (len) (a) (ioF tx 61 a b) (by first | assumption | omega) (by first | assumption | omega) (hio.1) (by omega)) (cwV 2 Z.1.2.2.2.2 gX6_runCommand_X4_nameBetween rfl rfl rfl (by decide +kernel) ⟨Nat.le_of_ble_eq_true rfl, Nat.le_of_ble_eq_true rfl⟩) rfl (Nat.le_of_ble_eq_true rfl) ⟨Nat.le_of_ble_eq_true rfl, Nat.le_of_ble_eq_true rfl⟩ [false, false, false, false, false, false, false, false, true, true] [zO hd 5 [.ref h0, .ref hh, .ref aSl, .ref aFi, .ref tO], zO h0 2 [.ref aE, .ref aT, .ref aP, zi ((ids : Nat) : Int)], zO aE 0 [.ref aK, .ref aN, zi ((cnt : Nat) : Int)], zAI ct aK 40 (zN keys), zAI ct aN 40 (zN names), zO aT 4 [.ref aD, zi ((sc : Nat) : Int), zi ((mg : Nat) : Int)], zAI ct aD 64 (zN dep), zAI ct aP 4 pos, zO tO 3 [.ref aC, zi ((len : Nat) : Int)], zAI ct aC 80 (zN tx)] [zi ((nbF tx a (ioF tx 61 a b) : Nat) : Int), .ref hd] rfl rfl rfl rfl ?_
      refine z_aload_n Z dX6_runCommand_77 2 rfl ?_
      refine z_get Z dX6_runCommand_78 zin_X6_runCommand_X6 0 4 rfl rfl (by decide) zlk_X6_runCommand_34 rfl ?_
      refine z_iload Z dX6_runCommand_81 0 rfl ?_
      refine z_iconst (v := 1) Z dX6_runCommand_83 rfl ?_
      refine z_iadd Z dX6_runCommand_84 ?_
      refine z_top (y := (((ioF tx 61 a b) + 1 : Nat) : Int)) (by omega) ?_
      refine z_iload_n Z dX6_runCommand_85 4 rfl ?_
      refine z_callVu (rest := [zi ((nbF tx a (ioF tx 61 a b) : Nat) : Int), .ref hd]) Z dX6_runCommand_86 3 8 _ _ rfl rfl rfl (zc_X4_nameBetween l D ct (tO) (aC) (tx) (len) ((ioF tx 61 a b) + 1) (b) (by first | assumption | omega) (by first | assumption | omega) (by first | assumption | omega) (by first | assumption | omega)) (cwV 2 Z.1.2.2.2.2 gX6_runCommand_X4_nameBetween rfl rfl rfl (by decide +kernel) ⟨Nat.le_of_ble_eq_true rfl, Nat.le_of_ble_eq_true rfl⟩) rfl (Nat.le_of_ble_eq_true rfl) ⟨Nat.le_of_ble_eq_true rfl, Nat.le_of_ble_eq_true rfl⟩ [false, false, false, false, false, false, false, false, true, true] [zO hd 5 [.ref h0, .ref hh, .ref aSl, .ref aFi, .ref tO], zO h0 2 [.ref aE, .ref aT, .ref aP, zi ((ids : Nat) : Int)], zO aE 0 [.ref aK, .ref aN, zi ((cnt : Nat) : Int)], zAI ct aK 40 (zN keys), zAI ct aN 40 (zN names), zO aT 4 [.ref aD, zi ((sc : Nat) : Int), zi ((mg : Nat) : Int)], zAI ct aD 64 (zN dep), zAI ct aP 4 pos, zO tO 3 [.ref aC, zi ((len : Nat) : Int)], zAI ct aC 80 (zN tx)] [zi ((nbF tx ((ioF tx 61 a b) + 1) b : Nat) : Int), zi ((nbF tx a (ioF tx 61 a b) : Nat) : Int), .ref hd] rfl rfl rfl rfl ?_
      refine z_callVu (rest := []) Z dX6_runCommand_89 5 0 _ _ rfl rfl rfl (zc_X6_runRename_t l D ct (hd) (tO) (aSl) (aFi) (h0) (aE) (aT) (aP) (aK) (aN) (aD) (keys) (names) (dep) (pos) (cnt) (sc) (mg) (ids) (hh) (nbF tx a (ioF tx 61 a b)) (nbF tx ((ioF tx 61 a b) + 1) b) (by first | assumption | omega) (by first | assumption | omega) (by first | assumption | omega) (by first | assumption | omega) (by first | assumption | omega) (by first | assumption | omega) (by first | assumption | omega) (hr9.1) (hr9.2.1)) (cwV 2 Z.1.2.2.2.2 gX6_runCommand_X6_runRename rfl rfl rfl (by decide +kernel) ⟨Nat.le_of_ble_eq_true rfl, Nat.le_of_ble_eq_true rfl⟩) rfl (Nat.le_of_ble_eq_true rfl) ⟨Nat.le_of_ble_eq_true rfl, Nat.le_of_ble_eq_true rfl⟩ [true, true, true, true, true, true, true, true, false, false] [zO hd 5 [.ref h0, .ref hh, .ref aSl, .ref aFi, .ref tO], zO h0 2 [.ref aE, .ref aT, .ref aP, zi ((ids + 1 : Nat) : Int)], zO aE 0 [.ref aK, .ref aN, zi ((cnt - 1 + 1 : Nat) : Int)], zAI ct aK 40 (zN (mkK (shL keys ((foF (nmP names (nbF tx a (ioF tx 61 a b))) cnt).toNat) (cnt - 1)) (cnt - 1) (nbF tx ((ioF tx 61 a b) + 1) b) ids)), zAI ct aN 40 (zN (mkN (shL keys ((foF (nmP names (nbF tx a (ioF tx 61 a b))) cnt).toNat) (cnt - 1)) (shL names ((foF (nmP names (nbF tx a (ioF tx 61 a b))) cnt).toNat) (cnt - 1)) (cnt - 1) (nbF tx ((ioF tx 61 a b) + 1) b) ids)), zO aT 4 [.ref aD, zi (((mkT (shL keys ((foF (nmP names (nbF tx a (ioF tx 61 a b))) cnt).toNat) (cnt - 1)) ((rmT keys dep cnt mg ((foF (nmP names (nbF tx a (ioF tx 61 a b))) cnt).toNat)).1) (cnt - 1) sc (nbF tx ((ioF tx 61 a b) + 1) b) ids).2 : Nat) : Int), zi (((rmT keys dep cnt mg ((foF (nmP names (nbF tx a (ioF tx 61 a b))) cnt).toNat)).2 : Nat) : Int)], zAI ct aD 64 (zN ((mkT (shL keys ((foF (nmP names (nbF tx a (ioF tx 61 a b))) cnt).toNat) (cnt - 1)) ((rmT keys dep cnt mg ((foF (nmP names (nbF tx a (ioF tx 61 a b))) cnt).toNat)).1) (cnt - 1) sc (nbF tx ((ioF tx 61 a b) + 1) b) ids).1)), zAI ct aP 4 pos, zO tO 3 [.ref aC, zi ((len : Nat) : Int)], zAI ct aC 80 (zN tx)] [zi (zb (decide (0 = 0)))] rfl rfl rfl rfl ?_
      refine z_eqs [zO hd 5 [.ref h0, .ref hh, .ref aSl, .ref aFi, .ref tO], zO h0 2 [.ref aE, .ref aT, .ref aP, zi ((s9.2.2.2.2.2.2.2 : Nat) : Int)], zO aE 0 [.ref aK, .ref aN, zi ((s9.2.2.2.2.1 : Nat) : Int)], zAI ct aK 40 (zN (s9.1)), zAI ct aN 40 (zN (s9.2.1)), zO aT 4 [.ref aD, zi ((s9.2.2.2.2.2.1 : Nat) : Int), zi ((s9.2.2.2.2.2.2.1 : Nat) : Int)], zAI ct aD 64 (zN (s9.2.2.1)), zAI ct aP 4 (s9.2.2.2.1), zO tO 3 [.ref aC, zi ((len : Nat) : Int)], zAI ct aC 80 (zN tx)] _ [zi (zb (decide (0 = 0)))] (by rw [hr9.2.2]; rfl) rfl (rfl) ?_
      exact hR _ _ () trivial dX6_runCommand_92
    · have hr9 := cmS_sub (by omega) hok
      have hnb1 := nbF_lt tx (a + 1) b
      refine z_aload_n Z dX6_runCommand_37 1 rfl ?_
      refine z_aload_n Z dX6_runCommand_38 1 rfl ?_
      refine z_get Z dX6_runCommand_39 zin_X6_runCommand_X6 0 4 rfl rfl (by decide) zlk_X6_runCommand_34 rfl ?_
      refine z_iload_n Z dX6_runCommand_42 2 rfl ?_
      refine z_iconst (v := 1) Z dX6_runCommand_43 rfl ?_
      refine z_iadd Z dX6_runCommand_44 ?_
      refine z_top (y := ((a + 1 : Nat) : Int)) (by omega) ?_
      refine z_iload_n Z dX6_runCommand_45 3 rfl ?_
      refine z_callVu (rest := [.ref hd]) Z dX6_runCommand_46 3 8 _ _ rfl rfl rfl (zc_X4_nameBetween l D ct (tO) (aC) (tx) (len) (a + 1) (b) (by first | assumption | omega) (by first | assumption | omega) (by first | assumption | omega) (by first | assumption | omega)) (cwV 2 Z.1.2.2.2.2 gX6_runCommand_X4_nameBetween rfl rfl rfl (by decide +kernel) ⟨Nat.le_of_ble_eq_true rfl, Nat.le_of_ble_eq_true rfl⟩) rfl (Nat.le_of_ble_eq_true rfl) ⟨Nat.le_of_ble_eq_true rfl, Nat.le_of_ble_eq_true rfl⟩ [false, false, false, false, false, false, false, false, true, true] [zO hd 5 [.ref h0, .ref hh, .ref aSl, .ref aFi, .ref tO], zO h0 2 [.ref aE, .ref aT, .ref aP, zi ((ids : Nat) : Int)], zO aE 0 [.ref aK, .ref aN, zi ((cnt : Nat) : Int)], zAI ct aK 40 (zN keys), zAI ct aN 40 (zN names), zO aT 4 [.ref aD, zi ((sc : Nat) : Int), zi ((mg : Nat) : Int)], zAI ct aD 64 (zN dep), zAI ct aP 4 pos, zO tO 3 [.ref aC, zi ((len : Nat) : Int)], zAI ct aC 80 (zN tx)] [zi ((nbF tx (a + 1) b : Nat) : Int), .ref hd] rfl rfl rfl rfl ?_
      refine z_callVu (rest := []) Z dX6_runCommand_49 5 0 _ _ rfl rfl rfl (zc_X6_runRemove_t l D ct (hd) (tO) (aSl) (aFi) (h0) (aE) (aT) (aP) (aK) (aN) (aD) (keys) (names) (dep) (pos) (cnt) (sc) (mg) (ids) (hh) (nbF tx (a + 1) b) (by first | assumption | omega) (by first | assumption | omega) (by first | assumption | omega) (by first | assumption | omega) (by first | assumption | omega) (by first | assumption | omega) (hr9.1)) (cwV 1 Z.1.2.2.2.2 gX6_runCommand_X6_runRemove rfl rfl rfl (by decide +kernel) ⟨Nat.le_of_ble_eq_true rfl, Nat.le_of_ble_eq_true rfl⟩) rfl (Nat.le_of_ble_eq_true rfl) ⟨Nat.le_of_ble_eq_true rfl, Nat.le_of_ble_eq_true rfl⟩ [true, true, true, true, true, true, true, true, false, false] [zO hd 5 [.ref h0, .ref hh, .ref aSl, .ref aFi, .ref tO], zO h0 2 [.ref aE, .ref aT, .ref aP, zi ((ids : Nat) : Int)], zO aE 0 [.ref aK, .ref aN, zi ((cnt - 1 : Nat) : Int)], zAI ct aK 40 (zN (shL keys ((foF (nmP names (nbF tx (a + 1) b)) cnt).toNat) (cnt - 1))), zAI ct aN 40 (zN (shL names ((foF (nmP names (nbF tx (a + 1) b)) cnt).toNat) (cnt - 1))), zO aT 4 [.ref aD, zi ((sc : Nat) : Int), zi (((rmT keys dep cnt mg ((foF (nmP names (nbF tx (a + 1) b)) cnt).toNat)).2 : Nat) : Int)], zAI ct aD 64 (zN ((rmT keys dep cnt mg ((foF (nmP names (nbF tx (a + 1) b)) cnt).toNat)).1)), zAI ct aP 4 pos, zO tO 3 [.ref aC, zi ((len : Nat) : Int)], zAI ct aC 80 (zN tx)] [zi (zb (decide (0 = 0)))] rfl rfl rfl rfl ?_
      refine z_eqs [zO hd 5 [.ref h0, .ref hh, .ref aSl, .ref aFi, .ref tO], zO h0 2 [.ref aE, .ref aT, .ref aP, zi ((s9.2.2.2.2.2.2.2 : Nat) : Int)], zO aE 0 [.ref aK, .ref aN, zi ((s9.2.2.2.2.1 : Nat) : Int)], zAI ct aK 40 (zN (s9.1)), zAI ct aN 40 (zN (s9.2.1)), zO aT 4 [.ref aD, zi ((s9.2.2.2.2.2.1 : Nat) : Int), zi ((s9.2.2.2.2.2.2.1 : Nat) : Int)], zAI ct aD 64 (zN (s9.2.2.1)), zAI ct aP 4 (s9.2.2.2.1), zO tO 3 [.ref aC, zi ((len : Nat) : Int)], zAI ct aC 80 (zN tx)] _ [zi (zb (decide (0 = 0)))] (by rw [hr9.2]; rfl) rfl (rfl) ?_
      exact hR _ _ () trivial dX6_runCommand_52
  · have hr9 := cmS_add (by omega) hok
    have hnb1 := nbF_lt tx (a + 1) b
    refine z_aload_n Z dX6_runCommand_15 1 rfl ?_
    refine z_aload_n Z dX6_runCommand_16 1 rfl ?_
    refine z_get Z dX6_runCommand_17 zin_X6_runCommand_X6 0 4 rfl rfl (by decide) zlk_X6_runCommand_34 rfl ?_
    refine z_iload_n Z dX6_runCommand_20 2 rfl ?_
    refine z_iconst (v := 1) Z dX6_runCommand_21 rfl ?_
    refine z_iadd Z dX6_runCommand_22 ?_
    refine z_top (y := ((a + 1 : Nat) : Int)) (by omega) ?_
    refine z_iload_n Z dX6_runCommand_23 3 rfl ?_
    refine z_callVu (rest := [.ref hd]) Z dX6_runCommand_24 3 8 _ _ rfl rfl rfl (zc_X4_nameBetween l D ct (tO) (aC) (tx) (len) (a + 1) (b) (by first | assumption | omega) (by first | assumption | omega) (by first | assumption | omega) (by first | assumption | omega)) (cwV 2 Z.1.2.2.2.2 gX6_runCommand_X4_nameBetween rfl rfl rfl (by decide +kernel) ⟨Nat.le_of_ble_eq_true rfl, Nat.le_of_ble_eq_true rfl⟩) rfl (Nat.le_of_ble_eq_true rfl) ⟨Nat.le_of_ble_eq_true rfl, Nat.le_of_ble_eq_true rfl⟩ [false, false, false, false, false, false, false, false, true, true] [zO hd 5 [.ref h0, .ref hh, .ref aSl, .ref aFi, .ref tO], zO h0 2 [.ref aE, .ref aT, .ref aP, zi ((ids : Nat) : Int)], zO aE 0 [.ref aK, .ref aN, zi ((cnt : Nat) : Int)], zAI ct aK 40 (zN keys), zAI ct aN 40 (zN names), zO aT 4 [.ref aD, zi ((sc : Nat) : Int), zi ((mg : Nat) : Int)], zAI ct aD 64 (zN dep), zAI ct aP 4 pos, zO tO 3 [.ref aC, zi ((len : Nat) : Int)], zAI ct aC 80 (zN tx)] [zi ((nbF tx (a + 1) b : Nat) : Int), .ref hd] rfl rfl rfl rfl ?_
    refine z_callVu (rest := []) Z dX6_runCommand_27 5 0 _ _ rfl rfl rfl (zc_X6_runAdd_t l D ct (hd) (tO) (aSl) (aFi) (h0) (aE) (aT) (aP) (aK) (aN) (aD) (keys) (names) (dep) (pos) (cnt) (sc) (mg) (ids) (hh) (nbF tx (a + 1) b) (by first | assumption | omega) (by first | assumption | omega) (by first | assumption | omega) (by first | assumption | omega) (by first | assumption | omega) (by first | assumption | omega) (hr9.1)) (cwV 1 Z.1.2.2.2.2 gX6_runCommand_X6_runAdd rfl rfl rfl (by decide +kernel) ⟨Nat.le_of_ble_eq_true rfl, Nat.le_of_ble_eq_true rfl⟩) rfl (Nat.le_of_ble_eq_true rfl) ⟨Nat.le_of_ble_eq_true rfl, Nat.le_of_ble_eq_true rfl⟩ [true, true, true, true, true, true, true, true, false, false] [zO hd 5 [.ref h0, .ref hh, .ref aSl, .ref aFi, .ref tO], zO h0 2 [.ref aE, .ref aT, .ref aP, zi ((ids + 1 : Nat) : Int)], zO aE 0 [.ref aK, .ref aN, zi ((cnt + 1 : Nat) : Int)], zAI ct aK 40 (zN (mkK keys cnt (nbF tx (a + 1) b) ids)), zAI ct aN 40 (zN (mkN keys names cnt (nbF tx (a + 1) b) ids)), zO aT 4 [.ref aD, zi (((mkT keys dep cnt sc (nbF tx (a + 1) b) ids).2 : Nat) : Int), zi ((mg : Nat) : Int)], zAI ct aD 64 (zN ((mkT keys dep cnt sc (nbF tx (a + 1) b) ids).1)), zAI ct aP 4 pos, zO tO 3 [.ref aC, zi ((len : Nat) : Int)], zAI ct aC 80 (zN tx)] [zi (zb (decide (0 = 0)))] rfl rfl rfl rfl ?_
    refine z_eqs [zO hd 5 [.ref h0, .ref hh, .ref aSl, .ref aFi, .ref tO], zO h0 2 [.ref aE, .ref aT, .ref aP, zi ((s9.2.2.2.2.2.2.2 : Nat) : Int)], zO aE 0 [.ref aK, .ref aN, zi ((s9.2.2.2.2.1 : Nat) : Int)], zAI ct aK 40 (zN (s9.1)), zAI ct aN 40 (zN (s9.2.1)), zO aT 4 [.ref aD, zi ((s9.2.2.2.2.2.1 : Nat) : Int), zi ((s9.2.2.2.2.2.2.1 : Nat) : Int)], zAI ct aD 64 (zN (s9.2.2.1)), zAI ct aP 4 (s9.2.2.2.1), zO tO 3 [.ref aC, zi ((len : Nat) : Int)], zAI ct aC 80 (zN tx)] _ [zi (zb (decide (0 = 0)))] (by rw [hr9.2]; rfl) rfl (rfl) ?_
    exact hR _ _ () trivial dX6_runCommand_30
set_option maxHeartbeats 4000000 in
set_option maxRecDepth 100000 in
theorem zc_X6_runCommand_f (l : Launch) (D : va_G) (ct : zCT) (hd : Nat) (tO : Nat) (aC : Nat) (aSl : Nat) (aFi : Nat) (h0 : Nat) (aE : Nat) (aT : Nat) (aP : Nat) (aK : Nat) (aN : Nat) (aD : Nat) (keys : Nat → Nat) (names : Nat → Nat) (dep : Nat → Nat) (pos : Nat → Int) (cnt : Nat) (sc : Nat) (mg : Nat) (ids : Nat) (hh : Nat) (tx : Nat → Nat) (len : Nat) (a : Nat) (b : Nat) (hc40 : cnt ≤ 40) (hk : ∀ j, j < 40 → keys j < 64000) (hn : ∀ j, j < 40 → names j < 1073741824) (hdp : ∀ j, j < 64 → dep j < 7) (hi : ids < 2000) (hl : len ≤ 80) (ht : ∀ j, j < 80 → tx j < 128) (ha : a < b) (hb : b ≤ 80) (hq : tx a = 43 ∨ tx a = 45 ∨ ioF tx 61 a b < b) (hok : cmS tx a b (keys, names, dep, pos, cnt, sc, mg, ids) = none) : zMet l yX6_runCommand wsX6_runCommand ({ frames := 4, cells := 0, slots := 0, locals := 85 } : Room) D ct [.ref hd, zi ((a : Nat) : Int), zi ((b : Nat) : Int)] [zO hd 5 [.ref h0, .ref hh, .ref aSl, .ref aFi, .ref tO], zO h0 2 [.ref aE, .ref aT, .ref aP, zi ((ids : Nat) : Int)], zO aE 0 [.ref aK, .ref aN, zi ((cnt : Nat) : Int)], zAI ct aK 40 (zN keys), zAI ct aN 40 (zN names), zO aT 4 [.ref aD, zi ((sc : Nat) : Int), zi ((mg : Nat) : Int)], zAI ct aD 64 (zN dep), zAI ct aP 4 pos, zO tO 3 [.ref aC, zi ((len : Nat) : Int)], zAI ct aC 80 (zN tx)] (fun _ : Unit => True) (fun _ => some (zi (zb (decide (1 = 0))))) (fun _ => [zO hd 5 [.ref h0, .ref hh, .ref aSl, .ref aFi, .ref tO], zO h0 2 [.ref aE, .ref aT, .ref aP, zi ((ids : Nat) : Int)], zO aE 0 [.ref aK, .ref aN, zi ((cnt : Nat) : Int)], zAI ct aK 40 (zN keys), zAI ct aN 40 (zN names), zO aT 4 [.ref aD, zi ((sc : Nat) : Int), zi ((mg : Nat) : Int)], zAI ct aD 64 (zN dep), zAI ct aP 4 pos, zO tO 3 [.ref aC, zi ((len : Nat) : Int)], zAI ct aC 80 (zN tx)]) 0 0 := by
  refine zMet_z (cc := cX6_runCommand) (maxL := 5) (r := fun _ => zb (decide (1 = 0))) (by decide) rfl (Nat.le_of_ble_eq_true rfl) (fun _ _ => zb_n _) ?_
  intro p e s m below meth c A Q Z hnm hR
  refine z_eqs _ [(0, .ref hd), (1, zi ((a : Nat) : Int)), (2, zi ((b : Nat) : Int))] _ rfl rfl rfl ?_
  have hta := ht a (by omega)
  have hio := ioF_rg tx 61 a b
  refine z_aload_n Z dX6_runCommand_0 0 rfl ?_
  refine z_get Z dX6_runCommand_1 zin_X6_runCommand_X6 0 4 rfl rfl (by decide) zlk_X6_runCommand_34 rfl ?_
  refine z_iload_n Z dX6_runCommand_4 1 rfl ?_
  refine z_callVu (rest := []) Z dX6_runCommand_5 3 8 _ _ rfl rfl rfl (zc_X4_charIn l D ct (tO) (aC) (tx) (len) (a) (by first | assumption | omega)) (cwV 1 Z.1.2.2.2.2 gX6_runCommand_X4_charIn rfl rfl rfl (by decide +kernel) ⟨Nat.le_of_ble_eq_true rfl, Nat.le_of_ble_eq_true rfl⟩) rfl (Nat.le_of_ble_eq_true rfl) ⟨Nat.le_of_ble_eq_true rfl, Nat.le_of_ble_eq_true rfl⟩ [false, false, false, false, false, false, false, false, true, true] [zO hd 5 [.ref h0, .ref hh, .ref aSl, .ref aFi, .ref tO], zO h0 2 [.ref aE, .ref aT, .ref aP, zi ((ids : Nat) : Int)], zO aE 0 [.ref aK, .ref aN, zi ((cnt : Nat) : Int)], zAI ct aK 40 (zN keys), zAI ct aN 40 (zN names), zO aT 4 [.ref aD, zi ((sc : Nat) : Int), zi ((mg : Nat) : Int)], zAI ct aD 64 (zN dep), zAI ct aP 4 pos, zO tO 3 [.ref aC, zi ((len : Nat) : Int)], zAI ct aC 80 (zN tx)] [zi ((tx a : Nat) : Int)] rfl rfl rfl rfl ?_
  refine z_istore_n Z dX6_runCommand_8 [(3, zi ((tx a : Nat) : Int)), (0, .ref hd), (1, zi ((a : Nat) : Int)), (2, zi ((b : Nat) : Int))] (by decide) rfl ?_
  refine z_iload_n Z dX6_runCommand_9 0 rfl ?_
  refine z_bipush (v := 43) Z dX6_runCommand_10 (by decide +kernel) ?_
  refine z_icmp_ne Z 31 dX6_runCommand_12 (by decide) (by omega) (by omega) (fun h12 => ?_) (fun h12 => ?_)
  · refine z_iload_n Z dX6_runCommand_31 0 rfl ?_
    refine z_bipush (v := 45) Z dX6_runCommand_32 (by decide +kernel) ?_
    refine z_icmp_ne Z 53 dX6_runCommand_34 (by decide) (by omega) (by omega) (fun h34 => ?_) (fun h34 => ?_)
    · have hr9 := cmS_renN (by omega) (by omega) hok
      have hnb1 := nbF_lt tx a (ioF tx 61 a b)
      have hnb2 := nbF_lt tx ((ioF tx 61 a b) + 1) b
      refine z_aload_n Z dX6_runCommand_53 1 rfl ?_
      refine z_get Z dX6_runCommand_54 zin_X6_runCommand_X6 0 4 rfl rfl (by decide) zlk_X6_runCommand_34 rfl ?_
      refine z_bipush (v := 61) Z dX6_runCommand_57 (by decide +kernel) ?_
      refine z_iload_n Z dX6_runCommand_59 2 rfl ?_
      refine z_iload_n Z dX6_runCommand_60 3 rfl ?_
      refine z_callVu (rest := []) Z dX6_runCommand_61 3 8 _ _ rfl rfl rfl (zc_X4_indexOf l D ct (tO) (aC) (tx) (len) (61) (a) (b) (by first | assumption | omega) (by first | assumption | omega) (by decide) (by omega) (by first | assumption | omega)) (cwV 3 Z.1.2.2.2.2 gX6_runCommand_X4_indexOf rfl rfl rfl (by decide +kernel) ⟨Nat.le_of_ble_eq_true rfl, Nat.le_of_ble_eq_true rfl⟩) rfl (Nat.le_of_ble_eq_true rfl) ⟨Nat.le_of_ble_eq_true rfl, Nat.le_of_ble_eq_true rfl⟩ [false, false, false, false, false, false, false, false, true, true] [zO hd 5 [.ref h0, .ref hh, .ref aSl, .ref aFi, .ref tO], zO h0 2 [.ref aE, .ref aT, .ref aP, zi ((ids : Nat) : Int)], zO aE 0 [.ref aK, .ref aN, zi ((cnt : Nat) : Int)], zAI ct aK 40 (zN keys), zAI ct aN 40 (zN names), zO aT 4 [.ref aD, zi ((sc : Nat) : Int), zi ((mg : Nat) : Int)], zAI ct aD 64 (zN dep), zAI ct aP 4 pos, zO tO 3 [.ref aC, zi ((len : Nat) : Int)], zAI ct aC 80 (zN tx)] [zi ((ioF tx 61 a b : Nat) : Int)] rfl rfl rfl rfl ?_
      refine z_istore Z dX6_runCommand_64 [(4, zi ((ioF tx 61 a b : Nat) : Int)), (3, zi ((tx a : Nat) : Int)), (0, .ref hd), (1, zi ((a : Nat) : Int)), (2, zi ((b : Nat) : Int))] (by decide) rfl ?_
      refine z_aload_n Z dX6_runCommand_66 2 rfl ?_
      refine z_aload_n Z dX6_runCommand_67 2 rfl ?_
      refine z_get Z dX6_runCommand_68 zin_X6_runCommand_X6 0 4 rfl rfl (by decide) zlk_X6_runCommand_34 rfl ?_
      refine z_iload_n Z dX6_runCommand_71 3 rfl ?_
      refine z_iload Z dX6_runCommand_72 0 rfl ?_
      refine z_callVu (rest := [.ref hd]) Z dX6_runCommand_74 3 8 _ _ rfl rfl rfl (zc_X4_nameBetween l D ct (tO) (aC) (tx) (len) (a) (ioF tx 61 a b) (by first | assumption | omega) (by first | assumption | omega) (hio.1) (by omega)) (cwV 2 Z.1.2.2.2.2 gX6_runCommand_X4_nameBetween rfl rfl rfl (by decide +kernel) ⟨Nat.le_of_ble_eq_true rfl, Nat.le_of_ble_eq_true rfl⟩) rfl (Nat.le_of_ble_eq_true rfl) ⟨Nat.le_of_ble_eq_true rfl, Nat.le_of_ble_eq_true rfl⟩ [false, false, false, false, false, false, false, false, true, true] [zO hd 5 [.ref h0, .ref hh, .ref aSl, .ref aFi, .ref tO], zO h0 2 [.ref aE, .ref aT, .ref aP, zi ((ids : Nat) : Int)], zO aE 0 [.ref aK, .ref aN, zi ((cnt : Nat) : Int)], zAI ct aK 40 (zN keys), zAI ct aN 40 (zN names), zO aT 4 [.ref aD, zi ((sc : Nat) : Int), zi ((mg : Nat) : Int)], zAI ct aD 64 (zN dep), zAI ct aP 4 pos, zO tO 3 [.ref aC, zi ((len : Nat) : Int)], zAI ct aC 80 (zN tx)] [zi ((nbF tx a (ioF tx 61 a b) : Nat) : Int), .ref hd] rfl rfl rfl rfl ?_
      refine z_aload_n Z dX6_runCommand_77 2 rfl ?_
      refine z_get Z dX6_runCommand_78 zin_X6_runCommand_X6 0 4 rfl rfl (by decide) zlk_X6_runCommand_34 rfl ?_
      refine z_iload Z dX6_runCommand_81 0 rfl ?_
      refine z_iconst (v := 1) Z dX6_runCommand_83 rfl ?_
      refine z_iadd Z dX6_runCommand_84 ?_
      refine z_top (y := (((ioF tx 61 a b) + 1 : Nat) : Int)) (by omega) ?_
      refine z_iload_n Z dX6_runCommand_85 4 rfl ?_
      refine z_callVu (rest := [zi ((nbF tx a (ioF tx 61 a b) : Nat) : Int), .ref hd]) Z dX6_runCommand_86 3 8 _ _ rfl rfl rfl (zc_X4_nameBetween l D ct (tO) (aC) (tx) (len) ((ioF tx 61 a b) + 1) (b) (by first | assumption | omega) (by first | assumption | omega) (by first | assumption | omega) (by first | assumption | omega)) (cwV 2 Z.1.2.2.2.2 gX6_runCommand_X4_nameBetween rfl rfl rfl (by decide +kernel) ⟨Nat.le_of_ble_eq_true rfl, Nat.le_of_ble_eq_true rfl⟩) rfl (Nat.le_of_ble_eq_true rfl) ⟨Nat.le_of_ble_eq_true rfl, Nat.le_of_ble_eq_true rfl⟩ [false, false, false, false, false, false, false, false, true, true] [zO hd 5 [.ref h0, .ref hh, .ref aSl, .ref aFi, .ref tO], zO h0 2 [.ref aE, .ref aT, .ref aP, zi ((ids : Nat) : Int)], zO aE 0 [.ref aK, .ref aN, zi ((cnt : Nat) : Int)], zAI ct aK 40 (zN keys), zAI ct aN 40 (zN names), zO aT 4 [.ref aD, zi ((sc : Nat) : Int), zi ((mg : Nat) : Int)], zAI ct aD 64 (zN dep), zAI ct aP 4 pos, zO tO 3 [.ref aC, zi ((len : Nat) : Int)], zAI ct aC 80 (zN tx)] [zi ((nbF tx ((ioF tx 61 a b) + 1) b : Nat) : Int), zi ((nbF tx a (ioF tx 61 a b) : Nat) : Int), .ref hd] rfl rfl rfl rfl ?_
      refine z_callVu (rest := []) Z dX6_runCommand_89 5 0 _ _ rfl rfl rfl (zc_X6_runRename_f l D ct (hd) (tO) (aSl) (aFi) (h0) (aE) (aT) (aP) (aK) (aN) (aD) (keys) (names) (dep) (pos) (cnt) (sc) (mg) (ids) (hh) (nbF tx a (ioF tx 61 a b)) (nbF tx ((ioF tx 61 a b) + 1) b) (by first | assumption | omega) (by first | assumption | omega) (by first | assumption | omega) (by first | assumption | omega) (by first | assumption | omega) (by first | assumption | omega) (by first | assumption | omega) (hr9)) (cwV 2 Z.1.2.2.2.2 gX6_runCommand_X6_runRename rfl rfl rfl (by decide +kernel) ⟨Nat.le_of_ble_eq_true rfl, Nat.le_of_ble_eq_true rfl⟩) rfl (Nat.le_of_ble_eq_true rfl) ⟨Nat.le_of_ble_eq_true rfl, Nat.le_of_ble_eq_true rfl⟩ [true, true, true, true, true, true, true, true, false, false] [zO hd 5 [.ref h0, .ref hh, .ref aSl, .ref aFi, .ref tO], zO h0 2 [.ref aE, .ref aT, .ref aP, zi ((ids : Nat) : Int)], zO aE 0 [.ref aK, .ref aN, zi ((cnt : Nat) : Int)], zAI ct aK 40 (zN keys), zAI ct aN 40 (zN names), zO aT 4 [.ref aD, zi ((sc : Nat) : Int), zi ((mg : Nat) : Int)], zAI ct aD 64 (zN dep), zAI ct aP 4 pos, zO tO 3 [.ref aC, zi ((len : Nat) : Int)], zAI ct aC 80 (zN tx)] [zi (zb (decide (1 = 0)))] rfl rfl rfl rfl ?_
      refine z_eqs [zO hd 5 [.ref h0, .ref hh, .ref aSl, .ref aFi, .ref tO], zO h0 2 [.ref aE, .ref aT, .ref aP, zi ((ids : Nat) : Int)], zO aE 0 [.ref aK, .ref aN, zi ((cnt : Nat) : Int)], zAI ct aK 40 (zN keys), zAI ct aN 40 (zN names), zO aT 4 [.ref aD, zi ((sc : Nat) : Int), zi ((mg : Nat) : Int)], zAI ct aD 64 (zN dep), zAI ct aP 4 pos, zO tO 3 [.ref aC, zi ((len : Nat) : Int)], zAI ct aC 80 (zN tx)] _ [zi (zb (decide (1 = 0)))] (rfl) rfl (rfl) ?_
      exact hR _ _ () trivial dX6_runCommand_92
    · have hr9 := cmS_subN (by omega) hok
      have hnb1 := nbF_lt tx (a + 1) b
      refine z_aload_n Z dX6_runCommand_37 1 rfl ?_
      refine z_aload_n Z dX6_runCommand_38 1 rfl ?_
      refine z_get Z dX6_runCommand_39 zin_X6_runCommand_X6 0 4 rfl rfl (by decide) zlk_X6_runCommand_34 rfl ?_
      refine z_iload_n Z dX6_runCommand_42 2 rfl ?_
      refine z_iconst (v := 1) Z dX6_runCommand_43 rfl ?_
      refine z_iadd Z dX6_runCommand_44 ?_
      refine z_top (y := ((a + 1 : Nat) : Int)) (by omega) ?_
      refine z_iload_n Z dX6_runCommand_45 3 rfl ?_
      refine z_callVu (rest := [.ref hd]) Z dX6_runCommand_46 3 8 _ _ rfl rfl rfl (zc_X4_nameBetween l D ct (tO) (aC) (tx) (len) (a + 1) (b) (by first | assumption | omega) (by first | assumption | omega) (by first | assumption | omega) (by first | assumption | omega)) (cwV 2 Z.1.2.2.2.2 gX6_runCommand_X4_nameBetween rfl rfl rfl (by decide +kernel) ⟨Nat.le_of_ble_eq_true rfl, Nat.le_of_ble_eq_true rfl⟩) rfl (Nat.le_of_ble_eq_true rfl) ⟨Nat.le_of_ble_eq_true rfl, Nat.le_of_ble_eq_true rfl⟩ [false, false, false, false, false, false, false, false, true, true] [zO hd 5 [.ref h0, .ref hh, .ref aSl, .ref aFi, .ref tO], zO h0 2 [.ref aE, .ref aT, .ref aP, zi ((ids : Nat) : Int)], zO aE 0 [.ref aK, .ref aN, zi ((cnt : Nat) : Int)], zAI ct aK 40 (zN keys), zAI ct aN 40 (zN names), zO aT 4 [.ref aD, zi ((sc : Nat) : Int), zi ((mg : Nat) : Int)], zAI ct aD 64 (zN dep), zAI ct aP 4 pos, zO tO 3 [.ref aC, zi ((len : Nat) : Int)], zAI ct aC 80 (zN tx)] [zi ((nbF tx (a + 1) b : Nat) : Int), .ref hd] rfl rfl rfl rfl ?_
      refine z_callVu (rest := []) Z dX6_runCommand_49 5 0 _ _ rfl rfl rfl (zc_X6_runRemove_f l D ct (hd) (tO) (aSl) (aFi) (h0) (aE) (aT) (aP) (aK) (aN) (aD) (keys) (names) (dep) (pos) (cnt) (sc) (mg) (ids) (hh) (nbF tx (a + 1) b) (by first | assumption | omega) (by first | assumption | omega) (by first | assumption | omega) (by first | assumption | omega) (by first | assumption | omega) (by first | assumption | omega) (hr9)) (cwV 1 Z.1.2.2.2.2 gX6_runCommand_X6_runRemove rfl rfl rfl (by decide +kernel) ⟨Nat.le_of_ble_eq_true rfl, Nat.le_of_ble_eq_true rfl⟩) rfl (Nat.le_of_ble_eq_true rfl) ⟨Nat.le_of_ble_eq_true rfl, Nat.le_of_ble_eq_true rfl⟩ [true, true, true, true, true, true, true, true, false, false] [zO hd 5 [.ref h0, .ref hh, .ref aSl, .ref aFi, .ref tO], zO h0 2 [.ref aE, .ref aT, .ref aP, zi ((ids : Nat) : Int)], zO aE 0 [.ref aK, .ref aN, zi ((cnt : Nat) : Int)], zAI ct aK 40 (zN keys), zAI ct aN 40 (zN names), zO aT 4 [.ref aD, zi ((sc : Nat) : Int), zi ((mg : Nat) : Int)], zAI ct aD 64 (zN dep), zAI ct aP 4 pos, zO tO 3 [.ref aC, zi ((len : Nat) : Int)], zAI ct aC 80 (zN tx)] [zi (zb (decide (1 = 0)))] rfl rfl rfl rfl ?_
      refine z_eqs [zO hd 5 [.ref h0, .ref hh, .ref aSl, .ref aFi, .ref tO], zO h0 2 [.ref aE, .ref aT, .ref aP, zi ((ids : Nat) : Int)], zO aE 0 [.ref aK, .ref aN, zi ((cnt : Nat) : Int)], zAI ct aK 40 (zN keys), zAI ct aN 40 (zN names), zO aT 4 [.ref aD, zi ((sc : Nat) : Int), zi ((mg : Nat) : Int)], zAI ct aD 64 (zN dep), zAI ct aP 4 pos, zO tO 3 [.ref aC, zi ((len : Nat) : Int)], zAI ct aC 80 (zN tx)] _ [zi (zb (decide (1 = 0)))] (rfl) rfl (rfl) ?_
      exact hR _ _ () trivial dX6_runCommand_52
  · have hr9 := cmS_addN (by omega) hok
    have hnb1 := nbF_lt tx (a + 1) b
    refine z_aload_n Z dX6_runCommand_15 1 rfl ?_
    refine z_aload_n Z dX6_runCommand_16 1 rfl ?_
    refine z_get Z dX6_runCommand_17 zin_X6_runCommand_X6 0 4 rfl rfl (by decide) zlk_X6_runCommand_34 rfl ?_
    refine z_iload_n Z dX6_runCommand_20 2 rfl ?_
    refine z_iconst (v := 1) Z dX6_runCommand_21 rfl ?_
    refine z_iadd Z dX6_runCommand_22 ?_
    refine z_top (y := ((a + 1 : Nat) : Int)) (by omega) ?_
    refine z_iload_n Z dX6_runCommand_23 3 rfl ?_
    refine z_callVu (rest := [.ref hd]) Z dX6_runCommand_24 3 8 _ _ rfl rfl rfl (zc_X4_nameBetween l D ct (tO) (aC) (tx) (len) (a + 1) (b) (by first | assumption | omega) (by first | assumption | omega) (by first | assumption | omega) (by first | assumption | omega)) (cwV 2 Z.1.2.2.2.2 gX6_runCommand_X4_nameBetween rfl rfl rfl (by decide +kernel) ⟨Nat.le_of_ble_eq_true rfl, Nat.le_of_ble_eq_true rfl⟩) rfl (Nat.le_of_ble_eq_true rfl) ⟨Nat.le_of_ble_eq_true rfl, Nat.le_of_ble_eq_true rfl⟩ [false, false, false, false, false, false, false, false, true, true] [zO hd 5 [.ref h0, .ref hh, .ref aSl, .ref aFi, .ref tO], zO h0 2 [.ref aE, .ref aT, .ref aP, zi ((ids : Nat) : Int)], zO aE 0 [.ref aK, .ref aN, zi ((cnt : Nat) : Int)], zAI ct aK 40 (zN keys), zAI ct aN 40 (zN names), zO aT 4 [.ref aD, zi ((sc : Nat) : Int), zi ((mg : Nat) : Int)], zAI ct aD 64 (zN dep), zAI ct aP 4 pos, zO tO 3 [.ref aC, zi ((len : Nat) : Int)], zAI ct aC 80 (zN tx)] [zi ((nbF tx (a + 1) b : Nat) : Int), .ref hd] rfl rfl rfl rfl ?_
    refine z_callVu (rest := []) Z dX6_runCommand_27 5 0 _ _ rfl rfl rfl (zc_X6_runAdd_f l D ct (hd) (tO) (aSl) (aFi) (h0) (aE) (aT) (aP) (aK) (aN) (aD) (keys) (names) (dep) (pos) (cnt) (sc) (mg) (ids) (hh) (nbF tx (a + 1) b) (by first | assumption | omega) (by first | assumption | omega) (by first | assumption | omega) (by first | assumption | omega) (by first | assumption | omega) (by first | assumption | omega) (hr9)) (cwV 1 Z.1.2.2.2.2 gX6_runCommand_X6_runAdd rfl rfl rfl (by decide +kernel) ⟨Nat.le_of_ble_eq_true rfl, Nat.le_of_ble_eq_true rfl⟩) rfl (Nat.le_of_ble_eq_true rfl) ⟨Nat.le_of_ble_eq_true rfl, Nat.le_of_ble_eq_true rfl⟩ [true, true, true, true, true, true, true, true, false, false] [zO hd 5 [.ref h0, .ref hh, .ref aSl, .ref aFi, .ref tO], zO h0 2 [.ref aE, .ref aT, .ref aP, zi ((ids : Nat) : Int)], zO aE 0 [.ref aK, .ref aN, zi ((cnt : Nat) : Int)], zAI ct aK 40 (zN keys), zAI ct aN 40 (zN names), zO aT 4 [.ref aD, zi ((sc : Nat) : Int), zi ((mg : Nat) : Int)], zAI ct aD 64 (zN dep), zAI ct aP 4 pos, zO tO 3 [.ref aC, zi ((len : Nat) : Int)], zAI ct aC 80 (zN tx)] [zi (zb (decide (1 = 0)))] rfl rfl rfl rfl ?_
    refine z_eqs [zO hd 5 [.ref h0, .ref hh, .ref aSl, .ref aFi, .ref tO], zO h0 2 [.ref aE, .ref aT, .ref aP, zi ((ids : Nat) : Int)], zO aE 0 [.ref aK, .ref aN, zi ((cnt : Nat) : Int)], zAI ct aK 40 (zN keys), zAI ct aN 40 (zN names), zO aT 4 [.ref aD, zi ((sc : Nat) : Int), zi ((mg : Nat) : Int)], zAI ct aD 64 (zN dep), zAI ct aP 4 pos, zO tO 3 [.ref aC, zi ((len : Nat) : Int)], zAI ct aC 80 (zN tx)] _ [zi (zb (decide (1 = 0)))] (rfl) rfl (rfl) ?_
    exact hR _ _ () trivial dX6_runCommand_30
theorem zin_X6_runText_X6 : ∀ w ∈ wsX60, w ∈ wsX6_runText := by decide +kernel
theorem zlk_X6_runText_34 : Cond.fieldLink RX6 34 "HashedDirectory" "text" "LHashedDirectory$Text;" ∈ wsX6_runText := by decide +kernel
theorem zlk_X6_runText_110 : Cond.classLink RX6 110 "java/lang/IllegalArgumentException" ∈ wsX6_runText := by decide +kernel
theorem zlk_X6_runText_iIllegalArgumentException : Cond.initialized "java/lang/IllegalArgumentException" ∈ wsX6_runText := by decide +kernel
theorem zlk_X6_runText_gIllegalArgumentException : ∀ w ∈ (vx_atS RX6 114 "java/lang/IllegalArgumentException" ["java/lang/RuntimeException", "java/lang/Exception"]).filter goodWord, w ∈ wsX6_runText := by decide +kernel
set_option maxHeartbeats 4000000 in
set_option maxRecDepth 100000 in
theorem zc_X6_runText_x1 (l : Launch) (hst9 : l.stackTraces = false) (D : va_G) (ct : zCT) (hd : Nat) (tO : Nat) (aC : Nat) (aSl : Nat) (aFi : Nat) (h0 : Nat) (aE : Nat) (aT : Nat) (aP : Nat) (aK : Nat) (aN : Nat) (aD : Nat) (keys : Nat → Nat) (names : Nat → Nat) (dep : Nat → Nat) (pos : Nat → Int) (cnt : Nat) (sc : Nat) (mg : Nat) (ids : Nat) (hh : Nat) (aR : Nat) (old : Nat) (hc : Nat) (ff : Nat → Option Nat) (ra : Nat → Nat → Nat) (rv : Nat → StV) (fs : Nat → Option Nat) (fl : Nat → Int) (qa : Nat → Nat → Nat) (qv : Nat → StV) (tx : Nat → Nat) (len : Nat) (hc40 : cnt ≤ 40) (hk : ∀ j, j < 40 → keys j < 64000) (hn : ∀ j, j < 40 → names j < 1073741824) (hdp : ∀ j, j < 64 → dep j < 7) (hp : ∀ j, j < 4 → -2 ≤ pos j ∧ pos j < 64000) (hi : ids < 2000) (hold : old < 6) (hhc : hc ≤ 6) (hff : ∀ k, k < 6 → ff k = some (ra k 0)) (hfs : ∀ k, k < 2 → fs k = some (qa k 0)) (hfl : ∀ j, j < 2 → fl j = 0 ∨ fl j = 1) (hl : len ≤ 80) (ht : ∀ j, j < 80 → tx j < 128) (hval : ceF tx len len 0 0 0 ≠ -2) : zMetX l yX6_runText wsX6_runText ({ frames := 6, cells := 1, slots := 6, locals := 82 } : Room) D ct [.ref hd] ([zO hd 5 [.ref h0, .ref hh, .ref aSl, .ref aFi, .ref tO], zO h0 2 [.ref aE, .ref aT, .ref aP, zi ((ids : Nat) : Int)], zO aE 0 [.ref aK, .ref aN, zi ((cnt : Nat) : Int)], zAI ct aK 40 (zN keys), zAI ct aN 40 (zN names), zO aT 4 [.ref aD, zi ((sc : Nat) : Int), zi ((mg : Nat) : Int)], zAI ct aD 64 (zN dep), zAI ct aP 4 pos, zO tO 3 [.ref aC, zi ((len : Nat) : Int)], zAI ct aC 80 (zN tx), zO hh 1 [.ref aR, zi ((old : Nat) : Int), zi ((hc : Nat) : Int)], zAS ct aR 6 ff, zAS ct aSl 2 fs, zAZ ct aFi 2 fl] ++ (stR ct ra rv (List.range 6) ++ (stR ct qa qv (List.range 2)))) "java/lang/IllegalArgumentException" 1 6 := by
  refine zMetX_of (cc := cX6_runText) (maxL := 4) (ret := (some .int)) (by decide) rfl (Nat.le_of_ble_eq_true rfl) ?_
  intro p e s m below meth c A Q Z hA9 hQ9 hE9 hlk9 hout9
  refine z_eqs _ [(0, .ref hd)] _ rfl rfl rfl ?_
  have hcr9 := ceF_rg tx len len 0 0 0 (by omega)
  refine z_aload_n Z dX6_runText_0 0 rfl ?_
  refine z_get Z dX6_runText_1 zin_X6_runText_X6 0 4 rfl rfl (by decide) zlk_X6_runText_34 rfl ?_
  refine z_callVu (rest := []) Z dX6_runText_4 3 8 _ _ rfl rfl rfl (zc_X4_commandError l D ct (tO) (aC) (tx) (len) (by first | assumption | omega) (by first | assumption | omega)) (cwV 0 Z.1.2.2.2.2 gX6_runText_X4_commandError rfl rfl rfl (by decide +kernel) ⟨Nat.le_of_ble_eq_true rfl, Nat.le_of_ble_eq_true rfl⟩) rfl (Nat.le_of_ble_eq_true rfl) ⟨Nat.le_of_ble_eq_true rfl, Nat.le_of_ble_eq_true rfl⟩ [false, false, false, false, false, false, false, false, true, true, false, false, false, false] ([zO hd 5 [.ref h0, .ref hh, .ref aSl, .ref aFi, .ref tO], zO h0 2 [.ref aE, .ref aT, .ref aP, zi ((ids : Nat) : Int)], zO aE 0 [.ref aK, .ref aN, zi ((cnt : Nat) : Int)], zAI ct aK 40 (zN keys), zAI ct aN 40 (zN names), zO aT 4 [.ref aD, zi ((sc : Nat) : Int), zi ((mg : Nat) : Int)], zAI ct aD 64 (zN dep), zAI ct aP 4 pos, zO tO 3 [.ref aC, zi ((len : Nat) : Int)], zAI ct aC 80 (zN tx), zO hh 1 [.ref aR, zi ((old : Nat) : Int), zi ((hc : Nat) : Int)], zAS ct aR 6 ff, zAS ct aSl 2 fs, zAZ ct aFi 2 fl] ++ (stR ct ra rv (List.range 6) ++ (stR ct qa qv (List.range 2)))) [zi (ceF tx len len 0 0 0)] rfl rfl rfl rfl ?_
  refine z_bipush (v := -2) Z dX6_runText_7 (by decide +kernel) ?_
  refine z_icmp_eq Z 22 dX6_runText_9 (by decide) (by omega) (by omega) (fun h9 => ?_) (fun h9 => ?_)
  · exfalso; first | contradiction | omega
  · exact z_throw (names := ["java/lang/RuntimeException", "java/lang/Exception"]) (text := "the text is not valid commands") Z hA9 hQ9 hE9 hlk9 hout9 hst9 rfl (by decide) (by decide) zlk_X6_runText_110 zlk_X6_runText_iIllegalArgumentException zlk_X6_runText_gIllegalArgumentException zbad_IllegalArgumentException zok_IllegalArgumentException (by decide) dX6_runText_12 dX6_runText_15 dX6_runText_16 dX6_runText_18 dX6_runText_21 (Nat.le_of_ble_eq_true rfl) (Nat.le_of_ble_eq_true rfl) (Nat.le_of_ble_eq_true rfl) (Nat.le_of_ble_eq_true rfl) (Nat.le_of_ble_eq_true rfl) (Nat.le_of_ble_eq_true rfl)
theorem zlk_X6_runText_19 : Cond.fieldLink RX6 19 "HashedDirectory" "history" "LHashedDirectory$History;" ∈ wsX6_runText := by decide +kernel
theorem zlk_X6_runText_12 : Cond.fieldLink RX6 12 "HashedDirectory" "state" "LHashedDirectory$State;" ∈ wsX6_runText := by decide +kernel
theorem zin_X6_runText_X4 : ∀ w ∈ wsX40, w ∈ wsX6_runText := by decide +kernel
theorem zlk_X6_runText_117 : Cond.fieldLink RX6 117 "HashedDirectory$Text" "length" "I" ∈ wsX6_runText := by decide +kernel
set_option maxHeartbeats 4000000 in
set_option maxRecDepth 100000 in
theorem zc_X6_runText (l : Launch) (D : va_G) (ct : zCT) (hd : Nat) (tO : Nat) (aC : Nat) (aSl : Nat) (aFi : Nat) (h0 : Nat) (aE : Nat) (aT : Nat) (aP : Nat) (aK : Nat) (aN : Nat) (aD : Nat) (keys : Nat → Nat) (names : Nat → Nat) (dep : Nat → Nat) (pos : Nat → Int) (cnt : Nat) (sc : Nat) (mg : Nat) (ids : Nat) (hh : Nat) (aR : Nat) (old : Nat) (hc : Nat) (ff : Nat → Option Nat) (ra : Nat → Nat → Nat) (rv : Nat → StV) (fs : Nat → Option Nat) (fl : Nat → Int) (qa : Nat → Nat → Nat) (qv : Nat → StV) (tx : Nat → Nat) (len : Nat) (hc40 : cnt ≤ 40) (hk : ∀ j, j < 40 → keys j < 64000) (hn : ∀ j, j < 40 → names j < 1073741824) (hdp : ∀ j, j < 64 → dep j < 7) (hp : ∀ j, j < 4 → -2 ≤ pos j ∧ pos j < 64000) (hi : ids < 2000) (hold : old < 6) (hhc : hc ≤ 6) (hff : ∀ k, k < 6 → ff k = some (ra k 0)) (hfs : ∀ k, k < 2 → fs k = some (qa k 0)) (hfl : ∀ j, j < 2 → fl j = 0 ∨ fl j = 1) (hl : len ≤ 80) (ht : ∀ j, j < 80 → tx j < 128) (hval : ceF tx len len 0 0 0 = -2) : zMet l yX6_runText wsX6_runText ({ frames := 6, cells := 0, slots := 0, locals := 139 } : Room) D ct [.ref hd] ([zO hd 5 [.ref h0, .ref hh, .ref aSl, .ref aFi, .ref tO], zO h0 2 [.ref aE, .ref aT, .ref aP, zi ((ids : Nat) : Int)], zO aE 0 [.ref aK, .ref aN, zi ((cnt : Nat) : Int)], zAI ct aK 40 (zN keys), zAI ct aN 40 (zN names), zO aT 4 [.ref aD, zi ((sc : Nat) : Int), zi ((mg : Nat) : Int)], zAI ct aD 64 (zN dep), zAI ct aP 4 pos, zO tO 3 [.ref aC, zi ((len : Nat) : Int)], zAI ct aC 80 (zN tx), zO hh 1 [.ref aR, zi ((old : Nat) : Int), zi ((hc : Nat) : Int)], zAS ct aR 6 ff, zAS ct aSl 2 fs, zAZ ct aFi 2 fl] ++ (stR ct ra rv (List.range 6) ++ (stR ct qa qv (List.range 2)))) (fun _ : Unit => True) (fun _ => some (zi ((((rtF tx len (len + 1) 0 0 0 (keys, names, dep, pos, cnt, sc, mg, ids)).1 : Nat) : Int)))) (fun _ => ([zO hd 5 [.ref h0, .ref hh, .ref aSl, .ref aFi, .ref tO], zO h0 2 [.ref aE, .ref aT, .ref aP, zi (((rtF tx len (len + 1) 0 0 0 (keys, names, dep, pos, cnt, sc, mg, ids)).2.2.2.2.2.2.2.2 : Nat) : Int)], zO aE 0 [.ref aK, .ref aN, zi (((rtF tx len (len + 1) 0 0 0 (keys, names, dep, pos, cnt, sc, mg, ids)).2.2.2.2.2.1 : Nat) : Int)], zAI ct aK 40 (zN ((rtF tx len (len + 1) 0 0 0 (keys, names, dep, pos, cnt, sc, mg, ids)).2.1)), zAI ct aN 40 (zN ((rtF tx len (len + 1) 0 0 0 (keys, names, dep, pos, cnt, sc, mg, ids)).2.2.1)), zO aT 4 [.ref aD, zi (((rtF tx len (len + 1) 0 0 0 (keys, names, dep, pos, cnt, sc, mg, ids)).2.2.2.2.2.2.1 : Nat) : Int), zi (((rtF tx len (len + 1) 0 0 0 (keys, names, dep, pos, cnt, sc, mg, ids)).2.2.2.2.2.2.2.1 : Nat) : Int)], zAI ct aD 64 (zN ((rtF tx len (len + 1) 0 0 0 (keys, names, dep, pos, cnt, sc, mg, ids)).2.2.2.1)), zAI ct aP 4 ((rtF tx len (len + 1) 0 0 0 (keys, names, dep, pos, cnt, sc, mg, ids)).2.2.2.2.1), zO tO 3 [.ref aC, zi ((len : Nat) : Int)], zAI ct aC 80 (zN tx), zO hh 1 [.ref aR, zi ((phO old hc : Nat) : Int), zi ((phC hc : Nat) : Int)], zAS ct aR 6 ff, zAS ct aSl 2 fs, zAZ ct aFi 2 fl] ++ (stR ct ra (zU rv (phI old hc) (keys, names, dep, pos, cnt, sc, mg, ids)) (List.range 6) ++ (stR ct qa qv (List.range 2))))) 0 0 := by
  refine zMet_i (cc := cX6_runText) (maxL := 4) (r := fun _ => (((rtF tx len (len + 1) 0 0 0 (keys, names, dep, pos, cnt, sc, mg, ids)).1 : Nat) : Int)) (by decide) rfl (Nat.le_of_ble_eq_true rfl) ?_
  intro p e s m below meth c A Q Z hnm hR
  refine z_eqs _ [(0, .ref hd)] _ rfl rfl rfl ?_
  have hcr9 := ceF_rg tx len len 0 0 0 (by omega)
  have hs0 : okS (keys, names, dep, pos, cnt, sc, mg, ids) := ⟨hc40, hk, hn, hdp, hi⟩
  refine z_aload_n Z dX6_runText_0 0 rfl ?_
  refine z_get Z dX6_runText_1 zin_X6_runText_X6 0 4 rfl rfl (by decide) zlk_X6_runText_34 rfl ?_
  refine z_callVu (rest := []) Z dX6_runText_4 3 8 _ _ rfl rfl rfl (zc_X4_commandError l D ct (tO) (aC) (tx) (len) (by first | assumption | omega) (by first | assumption | omega)) (cwV 0 Z.1.2.2.2.2 gX6_runText_X4_commandError rfl rfl rfl (by decide +kernel) ⟨Nat.le_of_ble_eq_true rfl, Nat.le_of_ble_eq_true rfl⟩) rfl (Nat.le_of_ble_eq_true rfl) ⟨Nat.le_of_ble_eq_true rfl, Nat.le_of_ble_eq_true rfl⟩ [false, false, false, false, false, false, false, false, true, true, false, false, false, false] ([zO hd 5 [.ref h0, .ref hh, .ref aSl, .ref aFi, .ref tO], zO h0 2 [.ref aE, .ref aT, .ref aP, zi ((ids : Nat) : Int)], zO aE 0 [.ref aK, .ref aN, zi ((cnt : Nat) : Int)], zAI ct aK 40 (zN keys), zAI ct aN 40 (zN names), zO aT 4 [.ref aD, zi ((sc : Nat) : Int), zi ((mg : Nat) : Int)], zAI ct aD 64 (zN dep), zAI ct aP 4 pos, zO tO 3 [.ref aC, zi ((len : Nat) : Int)], zAI ct aC 80 (zN tx), zO hh 1 [.ref aR, zi ((old : Nat) : Int), zi ((hc : Nat) : Int)], zAS ct aR 6 ff, zAS ct aSl 2 fs, zAZ ct aFi 2 fl] ++ (stR ct ra rv (List.range 6) ++ (stR ct qa qv (List.range 2)))) [zi (ceF tx len len 0 0 0)] rfl rfl rfl rfl ?_
  refine z_bipush (v := -2) Z dX6_runText_7 (by decide +kernel) ?_
  refine z_icmp_eq Z 22 dX6_runText_9 (by decide) (by omega) (by omega) (fun h9 => ?_) (fun h9 => ?_)
  · refine z_aload_n Z dX6_runText_22 0 rfl ?_
    refine z_get Z dX6_runText_23 zin_X6_runText_X6 0 1 rfl rfl (by decide) zlk_X6_runText_19 rfl ?_
    refine z_aload_n Z dX6_runText_26 0 rfl ?_
    refine z_get Z dX6_runText_27 zin_X6_runText_X6 0 0 rfl rfl (by decide) zlk_X6_runText_12 rfl ?_
    refine z_callVp (rest := []) Z dX6_runText_30 1 10 _ _ rfl rfl rfl (zc_X1_push l D ct (h0) (aE) (aT) (aP) (aK) (aN) (aD) (keys) (names) (dep) (pos) (cnt) (sc) (mg) (ids) (hh) (aR) (old) (hc) (ff) (ra) (rv) (by first | assumption | omega) (by first | assumption | omega) (by first | assumption | omega)) (cwV 1 Z.1.2.2.2.2 gX6_runText_X1_push rfl rfl rfl (by decide +kernel) ⟨Nat.le_of_ble_eq_true rfl, Nat.le_of_ble_eq_true rfl⟩) rfl (Nat.le_of_ble_eq_true rfl) ⟨Nat.le_of_ble_eq_true rfl, Nat.le_of_ble_eq_true rfl⟩ ([zO hd 5 [.ref h0, .ref hh, .ref aSl, .ref aFi, .ref tO], zO h0 2 [.ref aE, .ref aT, .ref aP, zi ((ids : Nat) : Int)], zO aE 0 [.ref aK, .ref aN, zi ((cnt : Nat) : Int)], zAI ct aK 40 (zN keys), zAI ct aN 40 (zN names), zO aT 4 [.ref aD, zi ((sc : Nat) : Int), zi ((mg : Nat) : Int)], zAI ct aD 64 (zN dep), zAI ct aP 4 pos, zO tO 3 [.ref aC, zi ((len : Nat) : Int)], zAI ct aC 80 (zN tx), zO hh 1 [.ref aR, zi ((phO old hc : Nat) : Int), zi ((phC hc : Nat) : Int)], zAS ct aR 6 ff, zAS ct aSl 2 fs, zAZ ct aFi 2 fl] ++ (stR ct ra (zU rv (phI old hc) (keys, names, dep, pos, cnt, sc, mg, ids)) (List.range 6) ++ (stR ct qa qv (List.range 2)))) [] (ztc [false, true, true, true, true, true, true, true, false, false, true, true, false, false] rfl rfl (List.Perm.refl _)) (ztb [false, true, true, true, true, true, true, true, false, false, true, true, false, false] rfl (List.Perm.refl _)) rfl rfl ?_
    refine z_iconst (v := 0) Z dX6_runText_33 rfl ?_
    refine z_istore_n Z dX6_runText_34 [(1, zi 0), (0, .ref hd)] (by decide) rfl ?_
    refine z_iconst (v := 0) Z dX6_runText_35 rfl ?_
    refine z_istore_n Z dX6_runText_36 [(2, zi 0), (1, zi 0), (0, .ref hd)] (by decide) rfl ?_
    refine z_iconst (v := 0) Z dX6_runText_37 rfl ?_
    refine z_istore_n Z dX6_runText_38 [(3, zi 0), (2, zi 0), (1, zi 0), (0, .ref hd)] (by decide) rfl ?_
    refine z_lsub [3, 2, 1, 0] [(0, .ref hd), (1, zi 0), (2, zi 0), (3, zi 0)] rfl ?_
    have LOOP39 : ∀ (N0 : Nat) (s8 : StV) (ex fr to : Nat) (x1 : Int) (x2 : Int) (x3 : Int) (y1_3 : Int) (y2_2 : Int) (y3g : Nat → Nat) (y4g : Nat → Nat) (y5_1 : Int) (y5_2 : Int) (y6g : Nat → Nat) (y7g : Nat → Int), len + 2 - to < N0 → x1 = ((ex : Nat) : Int) → x2 = ((fr : Nat) : Int) → x3 = ((to : Nat) : Int) → y1_3 = ((s8.2.2.2.2.2.2.2 : Nat) : Int) → y2_2 = ((s8.2.2.2.2.1 : Nat) : Int) → y3g = s8.1 → y4g = s8.2.1 → y5_1 = ((s8.2.2.2.2.2.1 : Nat) : Int) → y5_2 = ((s8.2.2.2.2.2.2.1 : Nat) : Int) → y6g = s8.2.2.1 → y7g = s8.2.2.2.1 → (okS s8) → (to ≤ len + 1) → (fr ≤ to) → (ex ≤ to) → (rtI tx len fr to) → (rtF tx len (len + 1 - to) to fr ex s8 = rtF tx len (len + 1) 0 0 0 (keys, names, dep, pos, cnt, sc, mg, ids)) → zW p l e ({ frames := 6, cells := 0, slots := 0, locals := 139 } : Room) s m ([.ref hd] : List Value).toArray below meth c D A 4 Q 0 0 ([zO hd 5 [.ref h0, .ref hh, .ref aSl, .ref aFi, .ref tO], zO h0 2 [.ref aE, .ref aT, .ref aP, zi y1_3], zO aE 0 [.ref aK, .ref aN, zi y2_2], zAI ct aK 40 (zN y3g), zAI ct aN 40 (zN y4g), zO aT 4 [.ref aD, zi y5_1, zi y5_2], zAI ct aD 64 (zN y6g), zAI ct aP 4 y7g, zO tO 3 [.ref aC, zi ((len : Nat) : Int)], zAI ct aC 80 (zN tx), zO hh 1 [.ref aR, zi ((phO old hc : Nat) : Int), zi ((phC hc : Nat) : Int)], zAS ct aR 6 ff, zAS ct aSl 2 fs, zAZ ct aFi 2 fl] ++ (stR ct ra (zU rv (phI old hc) (keys, names, dep, pos, cnt, sc, mg, ids)) (List.range 6) ++ (stR ct qa qv (List.range 2)))) [(0, .ref hd), (1, zi x1), (2, zi x2), (3, zi x3)] 39 [] := by
      intro N0
      induction N0 with
      | zero => intro s8 ex fr to x1 x2 x3 y1_3 y2_2 y3g y4g y5_1 y5_2 y6g y7g hm0; exact absurd hm0 (Nat.not_lt_zero _)
      | succ N0 ih0 =>
        intro s8 ex fr to x1 x2 x3 y1_3 y2_2 y3g y4g y5_1 y5_2 y6g y7g hm0 ex1 ex2 ex3 ey1_3 ey2_2 ey3g ey4g ey5_1 ey5_2 ey6g ey7g hsk hto hfr hex hpi he
        subst ex1
        subst ex2
        subst ex3
        subst ey1_3
        subst ey2_2
        subst ey3g
        subst ey4g
        subst ey5_1
        subst ey5_2
        subst ey6g
        subst ey7g
        refine z_iload_n Z dX6_runText_39 3 rfl ?_
        refine z_aload_n Z dX6_runText_40 0 rfl ?_
        refine z_get Z dX6_runText_41 zin_X6_runText_X6 0 4 rfl rfl (by decide) zlk_X6_runText_34 rfl ?_
        refine z_get Z dX6_runText_44 zin_X6_runText_X4 8 1 rfl rfl (by decide) zlk_X6_runText_117 rfl ?_
        refine z_icmp_gt Z 85 dX6_runText_47 (by decide) (by omega) (by omega) (fun h47 => ?_) (fun h47 => ?_)
        · refine z_iload_n Z dX6_runText_85 1 rfl ?_
          refine z_eqs ([zO hd 5 [.ref h0, .ref hh, .ref aSl, .ref aFi, .ref tO], zO h0 2 [.ref aE, .ref aT, .ref aP, zi (((rtF tx len (len + 1) 0 0 0 (keys, names, dep, pos, cnt, sc, mg, ids)).2.2.2.2.2.2.2.2 : Nat) : Int)], zO aE 0 [.ref aK, .ref aN, zi (((rtF tx len (len + 1) 0 0 0 (keys, names, dep, pos, cnt, sc, mg, ids)).2.2.2.2.2.1 : Nat) : Int)], zAI ct aK 40 (zN ((rtF tx len (len + 1) 0 0 0 (keys, names, dep, pos, cnt, sc, mg, ids)).2.1)), zAI ct aN 40 (zN ((rtF tx len (len + 1) 0 0 0 (keys, names, dep, pos, cnt, sc, mg, ids)).2.2.1)), zO aT 4 [.ref aD, zi (((rtF tx len (len + 1) 0 0 0 (keys, names, dep, pos, cnt, sc, mg, ids)).2.2.2.2.2.2.1 : Nat) : Int), zi (((rtF tx len (len + 1) 0 0 0 (keys, names, dep, pos, cnt, sc, mg, ids)).2.2.2.2.2.2.2.1 : Nat) : Int)], zAI ct aD 64 (zN ((rtF tx len (len + 1) 0 0 0 (keys, names, dep, pos, cnt, sc, mg, ids)).2.2.2.1)), zAI ct aP 4 ((rtF tx len (len + 1) 0 0 0 (keys, names, dep, pos, cnt, sc, mg, ids)).2.2.2.2.1), zO tO 3 [.ref aC, zi ((len : Nat) : Int)], zAI ct aC 80 (zN tx), zO hh 1 [.ref aR, zi ((phO old hc : Nat) : Int), zi ((phC hc : Nat) : Int)], zAS ct aR 6 ff, zAS ct aSl 2 fs, zAZ ct aFi 2 fl] ++ (stR ct ra (zU rv (phI old hc) (keys, names, dep, pos, cnt, sc, mg, ids)) (List.range 6) ++ (stR ct qa qv (List.range 2)))) _ [zi (((rtF tx len (len + 1) 0 0 0 (keys, names, dep, pos, cnt, sc, mg, ids)).1 : Nat) : Int)] (by rw [← he, show len + 1 - to = 0 from by omega]; rfl) rfl (congrArg (fun z => [zi z]) (by rw [← he, show len + 1 - to = 0 from by omega]; rfl)) ?_
          exact hR _ _ () trivial dX6_runText_86
        · refine z_aload_n Z dX6_runText_50 0 rfl ?_
          refine z_get Z dX6_runText_51 zin_X6_runText_X6 0 4 rfl rfl (by decide) zlk_X6_runText_34 rfl ?_
          refine z_iload_n Z dX6_runText_54 3 rfl ?_
          refine z_callVu (rest := []) Z dX6_runText_55 3 8 _ _ rfl rfl rfl (zc_X4_endsCommand l D ct (tO) (aC) (tx) (len) (to) (by first | assumption | omega) (by first | assumption | omega) (by first | assumption | omega)) (cwV 1 Z.1.2.2.2.2 gX6_runText_X4_endsCommand rfl rfl rfl (by decide +kernel) ⟨Nat.le_of_ble_eq_true rfl, Nat.le_of_ble_eq_true rfl⟩) rfl (Nat.le_of_ble_eq_true rfl) ⟨Nat.le_of_ble_eq_true rfl, Nat.le_of_ble_eq_true rfl⟩ [false, false, false, false, false, false, false, false, true, true, false, false, false, false] ([zO hd 5 [.ref h0, .ref hh, .ref aSl, .ref aFi, .ref tO], zO h0 2 [.ref aE, .ref aT, .ref aP, zi ((s8.2.2.2.2.2.2.2 : Nat) : Int)], zO aE 0 [.ref aK, .ref aN, zi ((s8.2.2.2.2.1 : Nat) : Int)], zAI ct aK 40 (zN (s8.1)), zAI ct aN 40 (zN (s8.2.1)), zO aT 4 [.ref aD, zi ((s8.2.2.2.2.2.1 : Nat) : Int), zi ((s8.2.2.2.2.2.2.1 : Nat) : Int)], zAI ct aD 64 (zN (s8.2.2.1)), zAI ct aP 4 (s8.2.2.2.1), zO tO 3 [.ref aC, zi ((len : Nat) : Int)], zAI ct aC 80 (zN tx), zO hh 1 [.ref aR, zi ((phO old hc : Nat) : Int), zi ((phC hc : Nat) : Int)], zAS ct aR 6 ff, zAS ct aSl 2 fs, zAZ ct aFi 2 fl] ++ (stR ct ra (zU rv (phI old hc) (keys, names, dep, pos, cnt, sc, mg, ids)) (List.range 6) ++ (stR ct qa qv (List.range 2)))) [zi (zb (decide (len ≤ to ∨ tx to = 59)))] rfl rfl rfl rfl ?_
          refine z_ifb_eq Z 79 dX6_runText_58 (by decide) (fun h58 => ?_) (fun h58 => ?_)
          · have h58 := of_decide_eq_false h58
            refine z_iinc (v := ((to + 1 : Nat) : Int)) Z dX6_runText_79 3 [(3, zi ((to + 1 : Nat) : Int)), (0, .ref hd), (1, zi ((ex : Nat) : Int)), (2, zi ((fr : Nat) : Int))] rfl (by omega) (by decide) rfl ?_
            refine z_goto Z 39 dX6_runText_82 (by decide) ?_
            refine z_lsub [1, 2, 3, 0] [(0, .ref hd), (1, zi ((ex : Nat) : Int)), (2, zi ((fr : Nat) : Int)), (3, zi ((to + 1 : Nat) : Int))] rfl ?_
            exact ih0 s8 ex fr (to + 1) _ _ _ _ _ _ _ _ _ _ _ (by omega) (by first | rfl | omega) (by first | rfl | omega) (by first | rfl | omega) (by first | rfl | omega) (by first | rfl | omega) (rfl) (rfl) (by first | rfl | omega) (by first | rfl | omega) (rfl) (rfl) (hsk) (by first | assumption | omega) (by first | assumption | omega) (by first | assumption | omega) (rtI_next hpi (by omega) h58) ((rtF_skip (by omega) h58).symm.trans he)
          · have h58 := of_decide_eq_true h58
            refine z_aload_n Z dX6_runText_61 0 rfl ?_
            refine z_iload_n Z dX6_runText_62 2 rfl ?_
            refine z_iload_n Z dX6_runText_63 3 rfl ?_
            rcases zopt (cmS tx fr to s8) with h9 | ⟨s9, h9⟩
            · have hcd9 := rtI_cmd hpi (by omega) h58
              refine z_eqs ([zO hd 5 [.ref h0, .ref hh, .ref aSl, .ref aFi, .ref tO], zO h0 2 [.ref aE, .ref aT, .ref aP, zi (((s8.2.2.2.2.2.2.2) : Nat) : Int)], zO aE 0 [.ref aK, .ref aN, zi (((s8.2.2.2.2.1) : Nat) : Int)], zAI ct aK 40 (zN (s8.1)), zAI ct aN 40 (zN (s8.2.1)), zO aT 4 [.ref aD, zi (((s8.2.2.2.2.2.1) : Nat) : Int), zi (((s8.2.2.2.2.2.2.1) : Nat) : Int)], zAI ct aD 64 (zN (s8.2.2.1)), zAI ct aP 4 (s8.2.2.2.1), zO tO 3 [.ref aC, zi ((len : Nat) : Int)], zAI ct aC 80 (zN tx), zO hh 1 [.ref aR, zi ((phO old hc : Nat) : Int), zi ((phC hc : Nat) : Int)], zAS ct aR 6 ff, zAS ct aSl 2 fs, zAZ ct aFi 2 fl] ++ (stR ct ra (zU rv (phI old hc) (keys, names, dep, pos, cnt, sc, mg, ids)) (List.range 6) ++ (stR ct qa qv (List.range 2)))) _ [zi ((to : Nat) : Int), zi ((fr : Nat) : Int), .ref hd] (by rw [show ((s8.2.2.2.2.2.2.2 : Nat) : Int) = (((s8.2.2.2.2.2.2.2) : Nat) : Int) from by omega, show ((s8.2.2.2.2.1 : Nat) : Int) = (((s8.2.2.2.2.1) : Nat) : Int) from by omega, show ((s8.2.2.2.2.2.1 : Nat) : Int) = (((s8.2.2.2.2.2.1) : Nat) : Int) from by omega, show ((s8.2.2.2.2.2.2.1 : Nat) : Int) = (((s8.2.2.2.2.2.2.1) : Nat) : Int) from by omega]) rfl (rfl) ?_
              refine z_callVu (rest := []) Z dX6_runText_64 5 0 _ _ rfl rfl rfl (zc_X6_runCommand_f l D ct (hd) (tO) (aC) (aSl) (aFi) (h0) (aE) (aT) (aP) (aK) (aN) (aD) (s8.1) (s8.2.1) (s8.2.2.1) (s8.2.2.2.1) (s8.2.2.2.2.1) (s8.2.2.2.2.2.1) (s8.2.2.2.2.2.2.1) (s8.2.2.2.2.2.2.2) (hh) (tx) (len) (fr) (to) (hsk.1) (hsk.2.1) (hsk.2.2.1) (hsk.2.2.2.1) (hsk.2.2.2.2) (by first | assumption | omega) (by first | assumption | omega) (hcd9.1) (by omega) (hcd9.2) (h9)) (cwV 2 Z.1.2.2.2.2 gX6_runText_X6_runCommand rfl rfl rfl (by decide +kernel) ⟨Nat.le_of_ble_eq_true rfl, Nat.le_of_ble_eq_true rfl⟩) rfl (Nat.le_of_ble_eq_true rfl) ⟨Nat.le_of_ble_eq_true rfl, Nat.le_of_ble_eq_true rfl⟩ [true, true, true, true, true, true, true, true, true, true, false, false, false, false] ([zO hd 5 [.ref h0, .ref hh, .ref aSl, .ref aFi, .ref tO], zO h0 2 [.ref aE, .ref aT, .ref aP, zi (((s8.2.2.2.2.2.2.2) : Nat) : Int)], zO aE 0 [.ref aK, .ref aN, zi (((s8.2.2.2.2.1) : Nat) : Int)], zAI ct aK 40 (zN (s8.1)), zAI ct aN 40 (zN (s8.2.1)), zO aT 4 [.ref aD, zi (((s8.2.2.2.2.2.1) : Nat) : Int), zi (((s8.2.2.2.2.2.2.1) : Nat) : Int)], zAI ct aD 64 (zN (s8.2.2.1)), zAI ct aP 4 (s8.2.2.2.1), zO tO 3 [.ref aC, zi ((len : Nat) : Int)], zAI ct aC 80 (zN tx), zO hh 1 [.ref aR, zi ((phO old hc : Nat) : Int), zi ((phC hc : Nat) : Int)], zAS ct aR 6 ff, zAS ct aSl 2 fs, zAZ ct aFi 2 fl] ++ (stR ct ra (zU rv (phI old hc) (keys, names, dep, pos, cnt, sc, mg, ids)) (List.range 6) ++ (stR ct qa qv (List.range 2)))) [zi (zb (decide (1 = 0)))] rfl rfl rfl rfl ?_
              refine z_ifb_ne Z 72 dX6_runText_67 (by decide) (fun h67 => ?_) (fun h67 => ?_)
              · have h67 := of_decide_eq_true h67
                exfalso; first | contradiction | omega
              · have h67 := of_decide_eq_false h67
                refine z_iload_n Z dX6_runText_70 1 rfl ?_
                refine z_eqs ([zO hd 5 [.ref h0, .ref hh, .ref aSl, .ref aFi, .ref tO], zO h0 2 [.ref aE, .ref aT, .ref aP, zi (((rtF tx len (len + 1) 0 0 0 (keys, names, dep, pos, cnt, sc, mg, ids)).2.2.2.2.2.2.2.2 : Nat) : Int)], zO aE 0 [.ref aK, .ref aN, zi (((rtF tx len (len + 1) 0 0 0 (keys, names, dep, pos, cnt, sc, mg, ids)).2.2.2.2.2.1 : Nat) : Int)], zAI ct aK 40 (zN ((rtF tx len (len + 1) 0 0 0 (keys, names, dep, pos, cnt, sc, mg, ids)).2.1)), zAI ct aN 40 (zN ((rtF tx len (len + 1) 0 0 0 (keys, names, dep, pos, cnt, sc, mg, ids)).2.2.1)), zO aT 4 [.ref aD, zi (((rtF tx len (len + 1) 0 0 0 (keys, names, dep, pos, cnt, sc, mg, ids)).2.2.2.2.2.2.1 : Nat) : Int), zi (((rtF tx len (len + 1) 0 0 0 (keys, names, dep, pos, cnt, sc, mg, ids)).2.2.2.2.2.2.2.1 : Nat) : Int)], zAI ct aD 64 (zN ((rtF tx len (len + 1) 0 0 0 (keys, names, dep, pos, cnt, sc, mg, ids)).2.2.2.1)), zAI ct aP 4 ((rtF tx len (len + 1) 0 0 0 (keys, names, dep, pos, cnt, sc, mg, ids)).2.2.2.2.1), zO tO 3 [.ref aC, zi ((len : Nat) : Int)], zAI ct aC 80 (zN tx), zO hh 1 [.ref aR, zi ((phO old hc : Nat) : Int), zi ((phC hc : Nat) : Int)], zAS ct aR 6 ff, zAS ct aSl 2 fs, zAZ ct aFi 2 fl] ++ (stR ct ra (zU rv (phI old hc) (keys, names, dep, pos, cnt, sc, mg, ids)) (List.range 6) ++ (stR ct qa qv (List.range 2)))) _ [zi (((rtF tx len (len + 1) 0 0 0 (keys, names, dep, pos, cnt, sc, mg, ids)).1 : Nat) : Int)] (by rw [← rtF_stop (by omega) h58 h9 he]) rfl (congrArg (fun z => [zi z]) (by rw [← rtF_stop (by omega) h58 h9 he])) ?_
                exact hR _ _ () trivial dX6_runText_71
            · have hcd9 := rtI_cmd hpi (by omega) h58
              refine z_eqs ([zO hd 5 [.ref h0, .ref hh, .ref aSl, .ref aFi, .ref tO], zO h0 2 [.ref aE, .ref aT, .ref aP, zi (((s8.2.2.2.2.2.2.2) : Nat) : Int)], zO aE 0 [.ref aK, .ref aN, zi (((s8.2.2.2.2.1) : Nat) : Int)], zAI ct aK 40 (zN (s8.1)), zAI ct aN 40 (zN (s8.2.1)), zO aT 4 [.ref aD, zi (((s8.2.2.2.2.2.1) : Nat) : Int), zi (((s8.2.2.2.2.2.2.1) : Nat) : Int)], zAI ct aD 64 (zN (s8.2.2.1)), zAI ct aP 4 (s8.2.2.2.1), zO tO 3 [.ref aC, zi ((len : Nat) : Int)], zAI ct aC 80 (zN tx), zO hh 1 [.ref aR, zi ((phO old hc : Nat) : Int), zi ((phC hc : Nat) : Int)], zAS ct aR 6 ff, zAS ct aSl 2 fs, zAZ ct aFi 2 fl] ++ (stR ct ra (zU rv (phI old hc) (keys, names, dep, pos, cnt, sc, mg, ids)) (List.range 6) ++ (stR ct qa qv (List.range 2)))) _ [zi ((to : Nat) : Int), zi ((fr : Nat) : Int), .ref hd] (by rw [show ((s8.2.2.2.2.2.2.2 : Nat) : Int) = (((s8.2.2.2.2.2.2.2) : Nat) : Int) from by omega, show ((s8.2.2.2.2.1 : Nat) : Int) = (((s8.2.2.2.2.1) : Nat) : Int) from by omega, show ((s8.2.2.2.2.2.1 : Nat) : Int) = (((s8.2.2.2.2.2.1) : Nat) : Int) from by omega, show ((s8.2.2.2.2.2.2.1 : Nat) : Int) = (((s8.2.2.2.2.2.2.1) : Nat) : Int) from by omega]) rfl (rfl) ?_
              refine z_callVu (rest := []) Z dX6_runText_64 5 0 _ _ rfl rfl rfl (zc_X6_runCommand_t l D ct (hd) (tO) (aC) (aSl) (aFi) (h0) (aE) (aT) (aP) (aK) (aN) (aD) (s8.1) (s8.2.1) (s8.2.2.1) (s8.2.2.2.1) (s8.2.2.2.2.1) (s8.2.2.2.2.2.1) (s8.2.2.2.2.2.2.1) (s8.2.2.2.2.2.2.2) (hh) (tx) (len) (fr) (to) (s9) (hsk.1) (hsk.2.1) (hsk.2.2.1) (hsk.2.2.2.1) (hsk.2.2.2.2) (by first | assumption | omega) (by first | assumption | omega) (hcd9.1) (by omega) (hcd9.2) (h9)) (cwV 2 Z.1.2.2.2.2 gX6_runText_X6_runCommand rfl rfl rfl (by decide +kernel) ⟨Nat.le_of_ble_eq_true rfl, Nat.le_of_ble_eq_true rfl⟩) rfl (Nat.le_of_ble_eq_true rfl) ⟨Nat.le_of_ble_eq_true rfl, Nat.le_of_ble_eq_true rfl⟩ [true, true, true, true, true, true, true, true, true, true, false, false, false, false] ([zO hd 5 [.ref h0, .ref hh, .ref aSl, .ref aFi, .ref tO], zO h0 2 [.ref aE, .ref aT, .ref aP, zi ((s9.2.2.2.2.2.2.2 : Nat) : Int)], zO aE 0 [.ref aK, .ref aN, zi ((s9.2.2.2.2.1 : Nat) : Int)], zAI ct aK 40 (zN (s9.1)), zAI ct aN 40 (zN (s9.2.1)), zO aT 4 [.ref aD, zi ((s9.2.2.2.2.2.1 : Nat) : Int), zi ((s9.2.2.2.2.2.2.1 : Nat) : Int)], zAI ct aD 64 (zN (s9.2.2.1)), zAI ct aP 4 (s9.2.2.2.1), zO tO 3 [.ref aC, zi ((len : Nat) : Int)], zAI ct aC 80 (zN tx), zO hh 1 [.ref aR, zi ((phO old hc : Nat) : Int), zi ((phC hc : Nat) : Int)], zAS ct aR 6 ff, zAS ct aSl 2 fs, zAZ ct aFi 2 fl] ++ (stR ct ra (zU rv (phI old hc) (keys, names, dep, pos, cnt, sc, mg, ids)) (List.range 6) ++ (stR ct qa qv (List.range 2)))) [zi (zb (decide (0 = 0)))] rfl rfl rfl rfl ?_
              refine z_ifb_ne Z 72 dX6_runText_67 (by decide) (fun h67 => ?_) (fun h67 => ?_)
              · have h67 := of_decide_eq_true h67
                refine z_iinc (v := ((ex + 1 : Nat) : Int)) Z dX6_runText_72 1 [(1, zi ((ex + 1 : Nat) : Int)), (0, .ref hd), (2, zi ((fr : Nat) : Int)), (3, zi ((to : Nat) : Int))] rfl (by omega) (by decide) rfl ?_
                refine z_iload_n Z dX6_runText_75 3 rfl ?_
                refine z_iconst (v := 1) Z dX6_runText_76 rfl ?_
                refine z_iadd Z dX6_runText_77 ?_
                refine z_top (y := ((to + 1 : Nat) : Int)) (by omega) ?_
                refine z_istore_n Z dX6_runText_78 [(2, zi ((to + 1 : Nat) : Int)), (1, zi ((ex + 1 : Nat) : Int)), (0, .ref hd), (3, zi ((to : Nat) : Int))] (by decide) rfl ?_
                refine z_iinc (v := ((to + 1 : Nat) : Int)) Z dX6_runText_79 3 [(3, zi ((to + 1 : Nat) : Int)), (2, zi ((to + 1 : Nat) : Int)), (1, zi ((ex + 1 : Nat) : Int)), (0, .ref hd)] rfl (by omega) (by decide) rfl ?_
                refine z_goto Z 39 dX6_runText_82 (by decide) ?_
                refine z_lsub [3, 2, 1, 0] [(0, .ref hd), (1, zi ((ex + 1 : Nat) : Int)), (2, zi ((to + 1 : Nat) : Int)), (3, zi ((to + 1 : Nat) : Int))] rfl ?_
                exact ih0 s9 (ex + 1) (to + 1) (to + 1) _ _ _ _ _ _ _ _ _ _ _ (by omega) (by first | rfl | omega) (by first | rfl | omega) (by first | rfl | omega) (by first | rfl | omega) (by first | rfl | omega) (rfl) (rfl) (by first | rfl | omega) (by first | rfl | omega) (rfl) (rfl) (okS_cm hsk h9) (by first | assumption | omega) (by first | assumption | omega) (by first | assumption | omega) (rtI_new hpi (by omega) h58) ((rtF_cmd (by omega) h58 h9).symm.trans he)
              · have h67 := of_decide_eq_false h67
                exfalso; first | contradiction | omega
    exact LOOP39 (len + 2 - 0 + 1) (keys, names, dep, pos, cnt, sc, mg, ids) 0 0 0 _ _ _ _ _ _ _ _ _ _ _ (Nat.lt_succ_self _) (by first | rfl | omega) (by first | rfl | omega) (by first | rfl | omega) (by first | rfl | omega) (by first | rfl | omega) (rfl) (rfl) (by first | rfl | omega) (by first | rfl | omega) (rfl) (rfl) (hs0) (by first | assumption | omega) (by first | assumption | omega) (by first | assumption | omega) (rtI_0 hval) (rfl)
  · exfalso; first | contradiction | omega
theorem zin_X6_meanLeafSize_X6 : ∀ w ∈ wsX60, w ∈ wsX6_meanLeafSize := by decide +kernel
theorem zlk_X6_meanLeafSize_12 : Cond.fieldLink RX6 12 "HashedDirectory" "state" "LHashedDirectory$State;" ∈ wsX6_meanLeafSize := by decide +kernel
theorem zin_X6_meanLeafSize_X3 : ∀ w ∈ wsX30, w ∈ wsX6_meanLeafSize := by decide +kernel
theorem zlk_X6_meanLeafSize_180 : Cond.fieldLink RX6 180 "HashedDirectory$State" "tree" "LHashedDirectory$Tree;" ∈ wsX6_meanLeafSize := by decide +kernel
theorem zlk_X6_meanLeafSize_63 : Cond.fieldLink RX6 63 "HashedDirectory$State" "entries" "LHashedDirectory$Entries;" ∈ wsX6_meanLeafSize := by decide +kernel
theorem zin_X6_meanLeafSize_X0 : ∀ w ∈ wsX00, w ∈ wsX6_meanLeafSize := by decide +kernel
theorem zlk_X6_meanLeafSize_67 : Cond.fieldLink RX6 67 "HashedDirectory$Entries" "count" "I" ∈ wsX6_meanLeafSize := by decide +kernel
set_option maxHeartbeats 4000000 in
set_option maxRecDepth 100000 in
theorem zc_X6_meanLeafSize (l : Launch) (D : va_G) (ct : zCT) (hd : Nat) (tO : Nat) (aC : Nat) (aSl : Nat) (aFi : Nat) (h0 : Nat) (aE : Nat) (aT : Nat) (aP : Nat) (aK : Nat) (aN : Nat) (aD : Nat) (keys : Nat → Nat) (names : Nat → Nat) (dep : Nat → Nat) (pos : Nat → Int) (cnt : Nat) (sc : Nat) (mg : Nat) (ids : Nat) (hh : Nat) (aR : Nat) (old : Nat) (hc : Nat) (ff : Nat → Option Nat) (ra : Nat → Nat → Nat) (rv : Nat → StV) (fs : Nat → Option Nat) (fl : Nat → Int) (qa : Nat → Nat → Nat) (qv : Nat → StV) (tx : Nat → Nat) (len : Nat) (hc40 : cnt ≤ 40) (hk : ∀ j, j < 40 → keys j < 64000) (hn : ∀ j, j < 40 → names j < 1073741824) (hdp : ∀ j, j < 64 → dep j < 7) (hp : ∀ j, j < 4 → -2 ≤ pos j ∧ pos j < 64000) (hi : ids < 2000) (hold : old < 6) (hhc : hc ≤ 6) (hff : ∀ k, k < 6 → ff k = some (ra k 0)) (hfs : ∀ k, k < 2 → fs k = some (qa k 0)) (hfl : ∀ j, j < 2 → fl j = 0 ∨ fl j = 1) (hl : len ≤ 80) (ht : ∀ j, j < 80 → tx j < 128) : zMet l yX6_meanLeafSize wsX6_meanLeafSize ({ frames := 2, cells := 0, slots := 0, locals := 43 } : Room) D ct [.ref hd] ([zO hd 5 [.ref h0, .ref hh, .ref aSl, .ref aFi, .ref tO], zO h0 2 [.ref aE, .ref aT, .ref aP, zi ((ids : Nat) : Int)], zO aE 0 [.ref aK, .ref aN, zi ((cnt : Nat) : Int)], zAI ct aK 40 (zN keys), zAI ct aN 40 (zN names), zO aT 4 [.ref aD, zi ((sc : Nat) : Int), zi ((mg : Nat) : Int)], zAI ct aD 64 (zN dep), zAI ct aP 4 pos, zO tO 3 [.ref aC, zi ((len : Nat) : Int)], zAI ct aC 80 (zN tx), zO hh 1 [.ref aR, zi ((old : Nat) : Int), zi ((hc : Nat) : Int)], zAS ct aR 6 ff, zAS ct aSl 2 fs, zAZ ct aFi 2 fl] ++ (stR ct ra rv (List.range 6) ++ (stR ct qa qv (List.range 2)))) (fun _ : Unit => True) (fun _ => some (.float (FP.fdiv (FP.i2f (zI ((cnt : Nat) : Int))) (FP.i2f (zI ((lcF dep 64 : Nat) : Int)))))) (fun _ => ([zO hd 5 [.ref h0, .ref hh, .ref aSl, .ref aFi, .ref tO], zO h0 2 [.ref aE, .ref aT, .ref aP, zi ((ids : Nat) : Int)], zO aE 0 [.ref aK, .ref aN, zi ((cnt : Nat) : Int)], zAI ct aK 40 (zN keys), zAI ct aN 40 (zN names), zO aT 4 [.ref aD, zi ((sc : Nat) : Int), zi ((mg : Nat) : Int)], zAI ct aD 64 (zN dep), zAI ct aP 4 pos, zO tO 3 [.ref aC, zi ((len : Nat) : Int)], zAI ct aC 80 (zN tx), zO hh 1 [.ref aR, zi ((old : Nat) : Int), zi ((hc : Nat) : Int)], zAS ct aR 6 ff, zAS ct aSl 2 fs, zAZ ct aFi 2 fl] ++ (stR ct ra rv (List.range 6) ++ (stR ct qa qv (List.range 2))))) 0 0 := by
  refine zMet_f (cc := cX6_meanLeafSize) (maxL := 2) (r := fun _ => FP.fdiv (FP.i2f (zI ((cnt : Nat) : Int))) (FP.i2f (zI ((lcF dep 64 : Nat) : Int)))) (by decide) rfl (Nat.le_of_ble_eq_true rfl) ?_
  intro p e s m below meth c A Q Z hnm hR
  refine z_eqs _ [(0, .ref hd)] _ rfl rfl rfl ?_
  have hlp9 := lcF_pos dep
  have hll9 := lcF_le dep 64
  refine z_aload_n Z dX6_meanLeafSize_0 0 rfl ?_
  refine z_get Z dX6_meanLeafSize_1 zin_X6_meanLeafSize_X6 0 0 rfl rfl (by decide) zlk_X6_meanLeafSize_12 rfl ?_
  refine z_get Z dX6_meanLeafSize_4 zin_X6_meanLeafSize_X3 1 1 rfl rfl (by decide) zlk_X6_meanLeafSize_180 rfl ?_
  refine z_callVu (rest := []) Z dX6_meanLeafSize_7 4 5 _ _ rfl rfl rfl (zc_X5_leafCount l D ct (aT) (aD) (dep) (sc) (mg) (by first | assumption | omega)) (cwV 0 Z.1.2.2.2.2 gX6_meanLeafSize_X5_leafCount rfl rfl rfl (by decide +kernel) ⟨Nat.le_of_ble_eq_true rfl, Nat.le_of_ble_eq_true rfl⟩) rfl (Nat.le_of_ble_eq_true rfl) ⟨Nat.le_of_ble_eq_true rfl, Nat.le_of_ble_eq_true rfl⟩ [false, false, false, false, false, true, true, false, false, false, false, false, false, false] ([zO hd 5 [.ref h0, .ref hh, .ref aSl, .ref aFi, .ref tO], zO h0 2 [.ref aE, .ref aT, .ref aP, zi ((ids : Nat) : Int)], zO aE 0 [.ref aK, .ref aN, zi ((cnt : Nat) : Int)], zAI ct aK 40 (zN keys), zAI ct aN 40 (zN names), zO aT 4 [.ref aD, zi ((sc : Nat) : Int), zi ((mg : Nat) : Int)], zAI ct aD 64 (zN dep), zAI ct aP 4 pos, zO tO 3 [.ref aC, zi ((len : Nat) : Int)], zAI ct aC 80 (zN tx), zO hh 1 [.ref aR, zi ((old : Nat) : Int), zi ((hc : Nat) : Int)], zAS ct aR 6 ff, zAS ct aSl 2 fs, zAZ ct aFi 2 fl] ++ (stR ct ra rv (List.range 6) ++ (stR ct qa qv (List.range 2)))) [zi ((lcF dep 64 : Nat) : Int)] rfl rfl rfl rfl ?_
  refine z_istore_n Z dX6_meanLeafSize_10 [(1, zi ((lcF dep 64 : Nat) : Int)), (0, .ref hd)] (by decide) rfl ?_
  refine z_iload_n Z dX6_meanLeafSize_11 0 rfl ?_
  refine z_if_le Z 32 dX6_meanLeafSize_12 (by decide) (by omega) (fun h12 => ?_) (fun h12 => ?_)
  · exfalso; first | contradiction | omega
  · refine z_aload_n Z dX6_meanLeafSize_15 1 rfl ?_
    refine z_get Z dX6_meanLeafSize_16 zin_X6_meanLeafSize_X6 0 0 rfl rfl (by decide) zlk_X6_meanLeafSize_12 rfl ?_
    refine z_get Z dX6_meanLeafSize_19 zin_X6_meanLeafSize_X3 1 0 rfl rfl (by decide) zlk_X6_meanLeafSize_63 rfl ?_
    refine z_get Z dX6_meanLeafSize_22 zin_X6_meanLeafSize_X0 2 2 rfl rfl (by decide) zlk_X6_meanLeafSize_67 rfl ?_
    refine z_i2f Z dX6_meanLeafSize_25 ?_
    refine z_iload_n Z dX6_meanLeafSize_26 0 rfl ?_
    refine z_i2f Z dX6_meanLeafSize_27 ?_
    refine z_fdiv Z dX6_meanLeafSize_28 (fdv_ok hc40 (lcF_pos dep) (lcF_le dep 64)) ?_
    refine z_goto Z 33 dX6_meanLeafSize_29 (by decide) ?_
    refine z_eqs ([zO hd 5 [.ref h0, .ref hh, .ref aSl, .ref aFi, .ref tO], zO h0 2 [.ref aE, .ref aT, .ref aP, zi ((ids : Nat) : Int)], zO aE 0 [.ref aK, .ref aN, zi ((cnt : Nat) : Int)], zAI ct aK 40 (zN keys), zAI ct aN 40 (zN names), zO aT 4 [.ref aD, zi ((sc : Nat) : Int), zi ((mg : Nat) : Int)], zAI ct aD 64 (zN dep), zAI ct aP 4 pos, zO tO 3 [.ref aC, zi ((len : Nat) : Int)], zAI ct aC 80 (zN tx), zO hh 1 [.ref aR, zi ((old : Nat) : Int), zi ((hc : Nat) : Int)], zAS ct aR 6 ff, zAS ct aSl 2 fs, zAZ ct aFi 2 fl] ++ (stR ct ra rv (List.range 6) ++ (stR ct qa qv (List.range 2)))) _ [.float (FP.fdiv (FP.i2f (zI ((cnt : Nat) : Int))) (FP.i2f (zI ((lcF dep 64 : Nat) : Int))))] (rfl) rfl (rfl) ?_
    exact hR _ _ () trivial dX6_meanLeafSize_33
