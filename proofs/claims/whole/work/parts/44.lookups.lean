/-! what is looked up, in both -/
theorem fo_both {p q : Nat → Bool} {n : Nat} (h : fiF p n = fiF q n) : (foF q n = -1 ∧ fo2 p n = -2) ∨ (fo2 p n = foF q n ∧ foF q n ≠ -1 ∧ fo2 p n ≠ -2 ∧ 0 ≤ foF q n ∧ foF q n < (n : Int)) := by
  unfold foF fo2
  rw [h]
  split
  · right; omega
  · left; exact ⟨rfl, rfl⟩
theorem sim_name {s : StV} {g : Nat → Int} (h : Sim s g) {tx : Nat → Nat} {a z : Nat} (hz : z ≤ 6) (hl : ∀ j, j < z → 97 ≤ tx (a + j) ∧ tx (a + j) ≤ 122) : fiF (mN g tx a z) s.2.2.2.2.1 = fiF (nmP s.2.1 (pkF tx a z)) s.2.2.2.2.1 :=
  fiF_cong (fun k hk => decide_eq_decide.mpr ((h.2.2.1 k hk).name hz hl))
theorem sim_id {s : StV} {g : Nat → Int} (h : Sim s g) (id : Int) : fiF (mP g id) s.2.2.2.2.1 = fiF (idP s.1 id) s.2.2.2.2.1 :=
  fiF_cong (fun k hk => decide_eq_decide.mpr (by have := (h.2.2.1 k hk).key h.2.2.2.2.2.1.2.2; omega))
/-- a command's text, in both -/
def CmR (tx : Nat → Nat) (a b : Nat) (sg : Int) (f1 l1 f2 l2 : Nat) : Prop :=
  (1 ≤ l1 ∧ l1 ≤ 6 ∧ f1 + l1 ≤ 80 ∧ ∀ j, j < l1 → 97 ≤ tx (f1 + j) ∧ tx (f1 + j) ≤ 122) ∧
  ((sg = 43 ∧ tx a = 43 ∧ nbF tx (a + 1) b = pkF tx f1 l1) ∨ (sg = 45 ∧ tx a = 45 ∧ nbF tx (a + 1) b = pkF tx f1 l1) ∨
    (sg = 61 ∧ tx a ≠ 43 ∧ tx a ≠ 45 ∧ nbF tx a (ioF tx 61 a b) = pkF tx f1 l1 ∧ nbF tx (ioF tx 61 a b + 1) b = pkF tx f2 l2 ∧ (1 ≤ l2 ∧ l2 ≤ 6 ∧ f2 + l2 ≤ 80 ∧ ∀ j, j < l2 → 97 ≤ tx (f2 + j) ∧ tx (f2 + j) ≤ 122)))
theorem sim_cm {s : StV} {g : Nat → Int} {tx : Nat → Nat} {a b : Nat} {sg : Int} {f1 l1 f2 l2 : Nat} (h : Sim s g) (ht : ∀ j, j < 80 → tx j < 128) (hr : CmR tx a b sg f1 l1 f2 l2) :
    (cmS tx a b s = none ∧ isD tx sg f1 l1 f2 l2 s.2.2.2.2.1 g = none) ∨ ∃ s9 g9, cmS tx a b s = some s9 ∧ isD tx sg f1 l1 f2 l2 s.2.2.2.2.1 g = some g9 ∧ Sim s9 g9 := by
  obtain ⟨⟨i1, i2, i3, i4⟩, hk⟩ := hr
  have hf := fo_both (sim_name h i2 i4)
  have h1 : g 1 = ((s.2.2.2.2.2.2.2 : Nat) : Int) := h.1.2.1
  rcases hk with ⟨rfl, k2, k3⟩ | ⟨rfl, k2, k3⟩ | ⟨rfl, k2, k3, k4, k5, j1, j2, j3, j4⟩
  · unfold cmS isD adS plS
    rw [if_pos k2, if_pos rfl, k3]
    by_cases c : s.2.2.2.2.1 < 40 ∧ (s.2.2.2.2.2.2.2 < 1000 ∧ foF (nmP s.2.1 (pkF tx f1 l1)) s.2.2.2.2.1 = -1)
    · right
      refine ⟨_, _, if_pos c, if_pos ⟨⟨by omega, by omega⟩, c.1⟩, sim_mk h i1 i2 i3 ht i4 c.1 c.2.1⟩
    · left
      exact ⟨if_neg c, if_neg (fun z => c ⟨z.2, by omega, by omega⟩)⟩
  · unfold cmS isD reS plS
    rw [if_neg (show ¬ tx a = 43 by omega), if_pos k2, if_neg (show ¬ ((45 : Int) = 43) by decide), k3]
    by_cases c : foF (nmP s.2.1 (pkF tx f1 l1)) s.2.2.2.2.1 ≠ -1
    · right
      have hq : fo2 (mN g tx f1 l1) s.2.2.2.2.1 = foF (nmP s.2.1 (pkF tx f1 l1)) s.2.2.2.2.1 ∧ 0 ≤ foF (nmP s.2.1 (pkF tx f1 l1)) s.2.2.2.2.1 ∧ foF (nmP s.2.1 (pkF tx f1 l1)) s.2.2.2.2.1 < (s.2.2.2.2.1 : Int) := by omega
      refine ⟨_, _, if_pos c, ?_, sim_mt h (k := (foF (nmP s.2.1 (pkF tx f1 l1)) s.2.2.2.2.1).toNat) (by omega)⟩
      rw [if_pos ⟨by omega, fun z => absurd z (by decide)⟩, if_neg (show ¬ ((45 : Int) = 61) by decide), hq.1]
    · left
      exact ⟨if_neg c, if_neg (fun z => c (by omega))⟩
  · have hf2 := fo_both (sim_name h j2 j4)
    unfold cmS isD rnS plS
    rw [if_neg k2, if_neg k3, if_neg (show ¬ ((61 : Int) = 43) by decide), k4, k5]
    by_cases c : foF (nmP s.2.1 (pkF tx f1 l1)) s.2.2.2.2.1 ≠ -1 ∧ (s.2.2.2.2.2.2.2 < 1000 ∧ foF (nmP s.2.1 (pkF tx f2 l2)) s.2.2.2.2.1 = -1)
    · right
      have hq : fo2 (mN g tx f1 l1) s.2.2.2.2.1 = foF (nmP s.2.1 (pkF tx f1 l1)) s.2.2.2.2.1 ∧ 0 ≤ foF (nmP s.2.1 (pkF tx f1 l1)) s.2.2.2.2.1 ∧ foF (nmP s.2.1 (pkF tx f1 l1)) s.2.2.2.2.1 < (s.2.2.2.2.1 : Int) := by omega
      have hm := sim_mt h (k := (foF (nmP s.2.1 (pkF tx f1 l1)) s.2.2.2.2.1).toNat) (by omega)
      have h40 : s.2.2.2.2.1 ≤ 40 := h.2.2.2.2.2.2.1.1
      have hmk := sim_mk hm j1 j2 j3 ht j4 (by show s.2.2.2.2.1 - 1 < 40; omega) c.2.1
      refine ⟨_, _, if_pos c, ?_, hmk⟩
      rw [if_pos ⟨by omega, fun _ => ⟨by omega, by omega⟩⟩, if_pos rfl, hq.1]
      rfl
    · left
      refine ⟨if_neg c, if_neg (fun z => c ⟨by omega, ?_⟩)⟩
      have := z.2 rfl
      omega
/-- a name in the text buffer -/
theorem nb_ok {tx : Nat → Nat} {ln : Nat} : nmO tx ln ↔ nbF tx 0 ln ≠ 0 := by
  unfold nmO nbF
  constructor
  · intro ⟨h1, h2⟩
    have hl : ∀ j, j < ln → 97 ≤ tx (0 + j) ∧ tx (0 + j) ≤ 122 := fun j hj => by rw [Nat.zero_add]; exact h2 j hj
    rw [if_pos ⟨by omega, fun j hj => hl j (by omega)⟩]
    intro z
    have hd := pkF_dig (tx := tx) (a := 0) (ln - 0) (by omega) (fun j hj => hl j (by omega)) 0 (by omega)
    rw [z, if_pos (by omega)] at hd
    have := hl 0 (by omega)
    have h0 : ltF 0 0 = 0 := rfl
    omega
  · intro h
    split at h
    · rename_i c
      refine ⟨⟨?_, by omega⟩, fun r hr => by have := c.2 r (by omega); rw [Nat.zero_add] at this; exact this⟩
      rcases Nat.eq_zero_or_pos ln with z | z
      · subst z; exact absurd rfl h
      · exact z
    · exact absurd rfl h
theorem nb_pk {tx : Nat → Nat} {ln : Nat} (h : nmO tx ln) : nbF tx 0 ln = pkF tx 0 ln := by
  unfold nbF
  have h1 := h.1
  rw [if_pos ⟨by omega, fun j hj => by rw [Nat.zero_add]; exact h.2 j (by omega)⟩, Nat.sub_zero]
theorem nm_l {tx : Nat → Nat} {ln : Nat} (h : nmO tx ln) : ∀ j, j < ln → 97 ≤ tx (0 + j) ∧ tx (0 + j) ≤ 122 := fun j hj => by rw [Nat.zero_add]; exact h.2 j hj
