/-! plain numbers: what the class's methods answer, as functions -/
/-- the first index below n with p, n if there is none -/
def fiF (p : Nat → Bool) : Nat → Nat
  | 0 => 0
  | n + 1 => if fiF p n < n then fiF p n else if p n then n else n + 1
theorem fiF_le (p : Nat → Bool) : ∀ n, fiF p n ≤ n
  | 0 => Nat.le_refl 0
  | n + 1 => by
    have ih := fiF_le p n
    unfold fiF
    split
    · omega
    · split <;> omega
theorem fiF_no (p : Nat → Bool) : ∀ n k, k < fiF p n → p k = false
  | 0, k, h => absurd h (Nat.not_lt_zero k)
  | n + 1, k, h => by
    have ih := fiF_no p n k
    have hle := fiF_le p n
    unfold fiF at h
    split at h
    · exact ih h
    · split at h
      · exact ih (by omega)
      · rename_i h1 h2
        by_cases hk : k = n
        · subst hk; cases hp : p k
          · rfl
          · exact absurd hp h2
        · exact ih (by omega)
theorem fiF_yes (p : Nat → Bool) : ∀ n, fiF p n < n → p (fiF p n) = true
  | 0, h => absurd h (Nat.not_lt_zero _)
  | n + 1, h => by
    have ih := fiF_yes p n
    unfold fiF at h ⊢
    split at h
    · rename_i h1; rw [if_pos h1]; exact ih h1
    · rename_i h1
      rw [if_neg h1]
      split at h
      · rename_i h2; rw [if_pos h2]; exact h2
      · omega
theorem fiF_eq {p : Nat → Bool} {n k : Nat} (h1 : k ≤ n) (h2 : ∀ j, j < k → p j = false) (h3 : k < n → p k = true) : fiF p n = k := by
  have a1 := fiF_le p n
  rcases Nat.lt_trichotomy (fiF p n) k with h | h | h
  · have := fiF_yes p n (by omega)
    rw [h2 _ h] at this
    cases this
  · exact h
  · have := fiF_no p n k h
    rw [h3 (by omega)] at this
    cases this
theorem fiF_cong {p q : Nat → Bool} {n : Nat} (h : ∀ k, k < n → p k = q k) : fiF p n = fiF q n := by
  refine fiF_eq (fiF_le q n) (fun j hj => ?_) (fun hk => ?_)
  · have := fiF_le q n
    rw [h j (by omega)]; exact fiF_no q n j hj
  · rw [h _ hk]; exact fiF_yes q n hk
/-- .. as an int, -1 if there is none -/
def foF (p : Nat → Bool) (n : Nat) : Int := if fiF p n < n then ((fiF p n : Nat) : Int) else (-1)
theorem foF_yes {p : Nat → Bool} {n k : Nat} (h1 : k < n) (h2 : ∀ j, j < k → p j = false) (h3 : p k = true) : ((k : Nat) : Int) = foF p n := by
  have := fiF_eq (Nat.le_of_lt h1) h2 (fun _ => h3)
  unfold foF
  rw [this, if_pos h1]
theorem foF_no {p : Nat → Bool} {n : Nat} (h2 : ∀ j, j < n → p j = false) : (-1 : Int) = foF p n := by
  have := fiF_eq (Nat.le_refl n) h2 (fun h => absurd h (Nat.lt_irrefl n))
  unfold foF
  rw [this, if_neg (Nat.lt_irrefl n)]
theorem lt_succ_all {q : Nat → Prop} {k : Nat} (h : ∀ j, j < k → q j) (hk : q k) : ∀ j, j < k + 1 → q j := fun j hj => by
  rcases Nat.lt_or_ge j k with h1 | h1
  · exact h j h1
  · have : j = k := by omega
    subst this; exact hk
-- places in the tree
def fhF (h d : Nat) : Nat := h / 2 ^ (6 - d) * 2 ^ (6 - d)
def lhF (h d : Nat) : Nat := fhF h d + 63 / 2 ^ d
def sbF (h d : Nat) : Nat := if h / 2 ^ (6 - d) % 2 = 0 then h + 2 ^ (6 - d) else h - 2 ^ (6 - d)
theorem zq_shr63 {d : Nat} (h : d < 7) : zI 63 >>> (zI ((d : Nat) : Int) &&& 31) = zI ((63 / 2 ^ d : Nat) : Int) := by
  have : ∀ d, d < 7 → zI 63 >>> (zI ((d : Nat) : Int) &&& 31) = zI ((63 / 2 ^ d : Nat) : Int) := by decide +kernel
  exact this d h
theorem zq_shr64 {d : Nat} (h : d < 7) : zI 64 >>> (zI ((d : Nat) : Int) &&& 31) = zI ((64 / 2 ^ d : Nat) : Int) := by
  have : ∀ d, d < 7 → zI 64 >>> (zI ((d : Nat) : Int) &&& 31) = zI ((64 / 2 ^ d : Nat) : Int) := by decide +kernel
  exact this d h
theorem zq_not {d : Nat} (h : d < 7) : zI ((63 / 2 ^ d : Nat) : Int) ^^^ zI (-1) = zI (-((63 / 2 ^ d : Nat) : Int) - 1) := by
  have : ∀ d, d < 7 → zI ((63 / 2 ^ d : Nat) : Int) ^^^ zI (-1) = zI (-((63 / 2 ^ d : Nat) : Int) - 1) := by decide +kernel
  exact this d h
theorem zq_fh {h d : Nat} (hh : h < 64) (hd : d < 7) : zI ((h : Nat) : Int) &&& zI (-((63 / 2 ^ d : Nat) : Int) - 1) = zI ((fhF h d : Nat) : Int) := by
  have : ∀ h, h < 64 → ∀ d, d < 7 → zI ((h : Nat) : Int) &&& zI (-((63 / 2 ^ d : Nat) : Int) - 1) = zI ((fhF h d : Nat) : Int) := by decide +kernel
  exact this h hh d hd
theorem zq_lh {h d : Nat} (hh : h < 64) (hd : d < 7) : zI ((h : Nat) : Int) ||| zI ((63 / 2 ^ d : Nat) : Int) = zI ((lhF h d : Nat) : Int) := by
  have : ∀ h, h < 64 → ∀ d, d < 7 → zI ((h : Nat) : Int) ||| zI ((63 / 2 ^ d : Nat) : Int) = zI ((lhF h d : Nat) : Int) := by decide +kernel
  exact this h hh d hd
theorem zq_sb {h d : Nat} (hh : h < 64) (hd : d < 7) (h1 : 0 < d) : zI ((h : Nat) : Int) ^^^ zI ((64 / 2 ^ d : Nat) : Int) = zI ((sbF h d : Nat) : Int) := by
  have : ∀ h, h < 64 → ∀ d, d < 7 → 0 < d → zI ((h : Nat) : Int) ^^^ zI ((64 / 2 ^ d : Nat) : Int) = zI ((sbF h d : Nat) : Int) := by decide +kernel
  exact this h hh d hd h1
theorem fh_le {h d : Nat} (hh : h < 64) (hd : d < 7) : fhF h d ≤ h ∧ h ≤ lhF h d ∧ lhF h d < 64 ∧ lhF h d = fhF h d + (63 / 2 ^ d) := by
  have : ∀ h, h < 64 → ∀ d, d < 7 → fhF h d ≤ h ∧ h ≤ lhF h d ∧ lhF h d < 64 ∧ lhF h d = fhF h d + (63 / 2 ^ d) := by decide +kernel
  exact this h hh d hd
theorem sb_lt {h d : Nat} (hh : h < 64) (hd : d < 7) (h1 : 0 < d) : sbF h d < 64 := by
  have : ∀ h, h < 64 → ∀ d, d < 7 → 0 < d → sbF h d < 64 := by decide +kernel
  exact this h hh d hd h1
-- names, five bits a letter
def ltF (nm i : Nat) : Nat := if i < 6 then nm / 2 ^ (25 - 5 * i) % 32 else 0
def hsR (nm : Nat) : Nat → Nat → Nat
  | 0, h => h
  | k + 1, h => if ltF nm (5 - k) = 0 then h else hsR nm k ((5 * h + ltF nm (5 - k)) % 64)
def hsF (nm : Nat) : Nat := hsR nm 6 7
theorem ltF_lt (nm i : Nat) : ltF nm i < 32 := by
  unfold ltF
  split
  · exact Nat.mod_lt _ (by decide)
  · decide
theorem hsR_lt (nm : Nat) : ∀ k h, h < 64 → hsR nm k h < 64
  | 0, h, hh => hh
  | k + 1, h, hh => by
    unfold hsR
    split
    · exact hh
    · exact hsR_lt nm k _ (Nat.mod_lt _ (by decide))
theorem hsF_lt (nm : Nat) : hsF nm < 64 := hsR_lt nm 6 7 (by decide)
theorem hsR_stop {nm i h : Nat} (hi : i < 6) (h0 : ltF nm i = 0) : hsR nm (6 - i) h = h := by
  obtain ⟨k, hk⟩ : ∃ k, 6 - i = k + 1 := ⟨5 - i, by omega⟩
  rw [hk]
  unfold hsR
  rw [show 5 - k = i by omega, if_pos h0]
theorem hsR_next {nm i h : Nat} (hi : i < 6) (h0 : ltF nm i ≠ 0) : hsR nm (6 - i) h = hsR nm (6 - (i + 1)) ((5 * h + ltF nm i) % 64) := by
  obtain ⟨k, hk⟩ : ∃ k, 6 - i = k + 1 := ⟨5 - i, by omega⟩
  rw [hk]
  show (if ltF nm (5 - k) = 0 then h else hsR nm k ((5 * h + ltF nm (5 - k)) % 64)) = _
  rw [show 5 - k = i by omega, if_neg h0, show 6 - (i + 1) = k by omega]
theorem zI_nI (n : Nat) : zI ((n : Nat) : Int) = nI n := (zI_nat n).symm
theorem zq_s31 {sh : Nat} (h : sh < 32) : (zI ((sh : Nat) : Int) &&& 31) = zI ((sh : Nat) : Int) := by
  have : ∀ sh, sh < 32 → (zI ((sh : Nat) : Int) &&& 31) = zI ((sh : Nat) : Int) := by decide +kernel
  exact this sh h
theorem zq_sm {sh : Nat} (h : sh < 32) : ((zI ((sh : Nat) : Int)).toBitVec.smod 32).toNat = sh := by
  have : ∀ sh, sh < 32 → ((zI ((sh : Nat) : Int)).toBitVec.smod 32).toNat = sh := by decide +kernel
  exact this sh h
theorem zq_shr {n sh : Nat} (hn : n < 2147483648) (h : sh < 32) : zI ((n : Nat) : Int) >>> (zI ((sh : Nat) : Int) &&& 31) = zI ((n / 2 ^ sh : Nat) : Int) := by
  rw [zq_s31 h, zI_nI n, zI_nI (n / 2 ^ sh)]
  exact pk_shrN (by omega) _ sh (zq_sm h)
theorem zq_shl {n sh : Nat} (h : sh < 32) (hn : n * 2 ^ sh < 2147483648) : zI ((n : Nat) : Int) <<< (zI ((sh : Nat) : Int) &&& 31) = zI ((n * 2 ^ sh : Nat) : Int) := by
  rw [zq_s31 h, zI_nI n, zI_nI (n * 2 ^ sh)]
  exact pk_shlN _ sh (zq_sm h) (by omega)
theorem zq_and31 {n : Nat} (hn : n < 2147483648) : zI ((n : Nat) : Int) &&& zI 31 = zI ((n % 32 : Nat) : Int) := by
  rw [zI_nI n, zI_nI (n % 32)]
  exact pk_andN (by omega) 5 (by decide +kernel)
theorem zq_or {a b k : Nat} (hb : b < 2 ^ k) (ha : a % 2 ^ k = 0) : zI ((a : Nat) : Int) ||| zI ((b : Nat) : Int) = zI ((a + b : Nat) : Int) := by
  rw [zI_nI a, zI_nI b, zI_nI (a + b)]
  have h1 : a = 2 ^ k * (a / 2 ^ k) := by
    have := Nat.div_add_mod a (2 ^ k)
    omega
  have h2 : a ||| b = a + b := by
    rw [h1]
    exact (Nat.two_pow_add_eq_or_of_lt hb (a / 2 ^ k)).symm
  apply Int32.toBitVec_inj.1
  show BitVec.ofNat 32 a ||| BitVec.ofNat 32 b = BitVec.ofNat 32 (a + b)
  rw [← h2]
  apply BitVec.eq_of_getLsbD_eq
  intro i hi
  simp [hi]
-- rows of numbers
def shR (f : Nat → Nat) (i n : Nat) : Nat → Nat := fun j => if i < j ∧ j ≤ n then f (j - 1) else f j
def inF (f : Nat → Nat) (p n x : Nat) : Nat → Nat := zU (shR f p n) p x
def shL (f : Nat → Nat) (p i : Nat) : Nat → Nat := fun j => if p ≤ j ∧ j < i then f (j + 1) else f j
def seF (f : Nat → Nat) (a i v : Nat) : Nat → Nat := fun j => if a ≤ j ∧ j < i then v else f j
theorem shR_0 (f : Nat → Nat) (n : Nat) : f = shR f n n := by
  funext j
  unfold shR
  rw [if_neg (by omega)]
theorem shR_s (f : Nat → Nat) {i n : Nat} (h : 0 < i) (hn : i ≤ n) : zU (shR f i n) i (shR f i n (i - 1)) = shR f (i - 1) n := by
  funext j
  unfold zU shR
  by_cases hj : j = i
  · subst hj
    rw [if_pos rfl, if_neg (by omega), if_pos (by omega)]
  · rw [if_neg hj]
    by_cases h2 : i < j ∧ j ≤ n
    · rw [if_pos h2, if_pos (by omega)]
    · rw [if_neg h2, if_neg (by omega)]
theorem shL_0 (f : Nat → Nat) (p : Nat) : f = shL f p p := by
  funext j
  unfold shL
  rw [if_neg (by omega)]
theorem shL_s (f : Nat → Nat) {p i : Nat} (h : p ≤ i) : zU (shL f p i) i (shL f p i (i + 1)) = shL f p (i + 1) := by
  funext j
  unfold zU shL
  by_cases hj : j = i
  · subst hj
    rw [if_pos rfl, if_neg (by omega), if_pos (by omega)]
  · rw [if_neg hj]
    by_cases h2 : p ≤ j ∧ j < i
    · rw [if_pos h2, if_pos (by omega)]
    · rw [if_neg h2, if_neg (by omega)]
theorem seF_0 (f : Nat → Nat) (a v : Nat) : f = seF f a a v := by
  funext j
  unfold seF
  rw [if_neg (by omega)]
theorem seF_s (f : Nat → Nat) {a i : Nat} (v : Nat) (h : a ≤ i) : zU (seF f a i v) i v = seF f a (i + 1) v := by
  funext j
  unfold zU seF
  by_cases hj : j = i
  · subst hj
    rw [if_pos rfl, if_pos (by omega)]
  · rw [if_neg hj]
    by_cases h2 : a ≤ j ∧ j < i
    · rw [if_pos h2, if_pos (by omega)]
    · rw [if_neg h2, if_neg (by omega)]
-- entries
def paF (keys : Nat → Nat) (cnt : Nat) (key : Int) : Nat := fiF (fun j => decide (key < ((keys j : Nat) : Int))) cnt
def idP (keys : Nat → Nat) (id : Int) : Nat → Bool := fun j => decide (((keys j % 1000 : Nat) : Int) = id)
def nmP (names : Nat → Nat) (name : Nat) : Nat → Bool := fun j => decide (names j = name)
/-- how many entries lie in a branch of the tree -/
def cbF (keys : Nat → Nat) (cnt h d : Nat) : Nat := paF keys cnt (((lhF h d * 1000 + 999 : Nat) : Nat) : Int) - paF keys cnt (((fhF h d * 1000 : Nat) : Int) - 1)
theorem paF_le (keys : Nat → Nat) (cnt : Nat) (key : Int) : paF keys cnt key ≤ cnt := fiF_le _ _
theorem paF_mono (keys : Nat → Nat) (cnt : Nat) {k1 k2 : Int} (h : k1 ≤ k2) : paF keys cnt k1 ≤ paF keys cnt k2 := by
  rcases Nat.lt_or_ge (paF keys cnt k2) (paF keys cnt k1) with h1 | h1
  · have h2 := fiF_no (fun j => decide (k1 < ((keys j : Nat) : Int))) cnt _ h1
    have h3 := paF_le keys cnt k1
    have h4 := fiF_yes (fun j => decide (k2 < ((keys j : Nat) : Int))) cnt (by show paF keys cnt k2 < cnt; omega)
    have h5 := of_decide_eq_false h2
    have h6 := of_decide_eq_true h4
    exact absurd (show k1 < ((keys (paF keys cnt k2) : Nat) : Int) from Int.lt_of_le_of_lt h h6) h5
  · exact h1
theorem paF_eq {keys : Nat → Nat} {cnt k : Nat} {key : Int} (h1 : k ≤ cnt) (h2 : ∀ j, j < k → ((keys j : Nat) : Int) ≤ key) (h3 : k < cnt → key < ((keys k : Nat) : Int)) : k = paF keys cnt key :=
  (fiF_eq (p := fun j => decide (key < ((keys j : Nat) : Int))) h1 (fun j hj => decide_eq_false (by have := h2 j hj; omega)) (fun h => decide_eq_true (h3 h))).symm
/-- the leaves of the tree, a leaf by its first hash -/
def lcF (dep : Nat → Nat) : Nat → Nat
  | 0 => 0
  | n + 1 => lcF dep n + if fhF n (dep n) = n then 1 else 0
theorem lcF_le (dep : Nat → Nat) : ∀ n, lcF dep n ≤ n
  | 0 => Nat.le_refl 0
  | n + 1 => by
    have := lcF_le dep n
    unfold lcF
    split <;> omega
/-- how deep one comes while it is too full -/
def dsF (big : Nat → Bool) : Nat → Nat → Nat
  | 0, d => d
  | k + 1, d => if big d = true then dsF big k (d + 1) else d
/-- the splits on the way down: depths and their number -/
def spF (big : Nat → Bool) (h : Nat) : Nat → Nat → (Nat → Nat) × Nat → (Nat → Nat) × Nat
  | 0, _, v => v
  | k + 1, d, v => if big d = true then spF big h k (d + 1) (seF v.1 (fhF h d) (lhF h d + 1) (d + 1), v.2 + 1) else v
/-- the merges on the way up -/
def mgF (small : Nat → Bool) (h : Nat) : Nat → (Nat → Nat) × Nat → (Nat → Nat) × Nat
  | 0, v => v
  | d + 1, v => if v.1 (sbF h (d + 1)) = d + 1 ∧ small d = true then mgF small h d (seF v.1 (fhF h d) (lhF h d + 1) d, v.2 + 1) else v
