/-! names by their letters: the class's numbers and the reference's rows -/
theorem ltF_0 (a : Nat) : ltF a 0 = a / 33554432 % 32 := rfl
theorem ltF_1 (a : Nat) : ltF a 1 = a / 1048576 % 32 := rfl
theorem ltF_2 (a : Nat) : ltF a 2 = a / 32768 % 32 := rfl
theorem ltF_3 (a : Nat) : ltF a 3 = a / 1024 % 32 := rfl
theorem ltF_4 (a : Nat) : ltF a 4 = a / 32 % 32 := rfl
theorem ltF_5 (a : Nat) : ltF a 5 = a / 1 % 32 := rfl
theorem dig_ext {a b : Nat} (ha : a < 1073741824) (hb : b < 1073741824) (h : ∀ r, r < 6 → ltF a r = ltF b r) : a = b := by
  have h0 := h 0 (by omega)
  have h1 := h 1 (by omega)
  have h2 := h 2 (by omega)
  have h3 := h 3 (by omega)
  have h4 := h 4 (by omega)
  have h5 := h 5 (by omega)
  rw [ltF_0, ltF_0] at h0
  rw [ltF_1, ltF_1] at h1
  rw [ltF_2, ltF_2] at h2
  rw [ltF_3, ltF_3] at h3
  rw [ltF_4, ltF_4] at h4
  rw [ltF_5, ltF_5, Nat.div_one, Nat.div_one] at h5
  have a1 : a / 1048576 / 32 = a / 33554432 := Nat.div_div_eq_div_mul a 1048576 32
  have b1 : b / 1048576 / 32 = b / 33554432 := Nat.div_div_eq_div_mul b 1048576 32
  have a2 : a / 32768 / 32 = a / 1048576 := Nat.div_div_eq_div_mul a 32768 32
  have b2 : b / 32768 / 32 = b / 1048576 := Nat.div_div_eq_div_mul b 32768 32
  have a3 : a / 1024 / 32 = a / 32768 := Nat.div_div_eq_div_mul a 1024 32
  have b3 : b / 1024 / 32 = b / 32768 := Nat.div_div_eq_div_mul b 1024 32
  have a4 : a / 32 / 32 = a / 1024 := Nat.div_div_eq_div_mul a 32 32
  have b4 : b / 32 / 32 = b / 1024 := Nat.div_div_eq_div_mul b 32 32
  have l1 : a / 33554432 < 32 := by omega
  have l2 : b / 33554432 < 32 := by omega
  generalize a / 33554432 = x0 at *
  generalize b / 33554432 = y0 at *
  have e0 : x0 = y0 := by omega
  subst e0
  generalize a / 1048576 = x1 at *
  generalize b / 1048576 = y1 at *
  have e1 : x1 = y1 := by clear a2 b2 a3 b3 a4 b4 h2 h3 h4 h5 ha hb; omega
  subst e1
  generalize a / 32768 = x2 at *
  generalize b / 32768 = y2 at *
  have e2 : x2 = y2 := by clear a3 b3 a4 b4 h3 h4 h5 ha hb; omega
  subst e2
  generalize a / 1024 = x3 at *
  generalize b / 1024 = y3 at *
  have e3 : x3 = y3 := by clear a4 b4 h4 h5 ha hb; omega
  subst e3
  generalize ha32 : a / 32 = x4 at *
  generalize hb32 : b / 32 = y4 at *
  have e4 : x4 = y4 := by clear h5 ha hb; omega
  subst e4
  clear a1 b1 a2 b2 a3 b3 a4 b4
  omega
theorem pkF_dig {tx : Nat → Nat} {a : Nat} : ∀ (z : Nat), z ≤ 6 → (∀ j, j < z → 97 ≤ tx (a + j) ∧ tx (a + j) ≤ 122) → ∀ r, r < 6 → ltF (pkF tx a z) r = if r < z then tx (a + r) - 96 else 0
  | 0, _, _, r, hr => by
    rw [if_neg (by omega)]
    show ltF 0 r = 0
    unfold ltF
    rw [if_pos hr, Nat.zero_div]
  | z + 1, hz, h, r, hr => by
    have ih := pkF_dig z (by omega) (fun j hj => h j (by omega)) r hr
    have ok := pkF_ok (tx := tx) (a := a) (k := z) (fun j hj => h j (by omega)) (by omega)
    have hc := h z (by omega)
    have e : pkF tx a (z + 1) = pkF tx a z + (tx (a + z) - 96) * 2 ^ (25 - 5 * z) := rfl
    rw [e]
    generalize pkF tx a z = P at *
    have hz5 : z = 0 ∨ z = 1 ∨ z = 2 ∨ z = 3 ∨ z = 4 ∨ z = 5 := by omega
    have hr5 : r = 0 ∨ r = 1 ∨ r = 2 ∨ r = 3 ∨ r = 4 ∨ r = 5 := by omega
    obtain ⟨o1, o2⟩ := ok
    rcases hr5 with rfl | rfl | rfl | rfl | rfl | rfl
    · rw [ltF_0] at ih ⊢
      rcases hz5 with rfl | rfl | rfl | rfl | rfl | rfl <;> simp only [Nat.reduceMul, Nat.reduceSub, Nat.reducePow] at o1 o2 ih ⊢ <;> split at ih <;> split <;> omega
    · rw [ltF_1] at ih ⊢
      rcases hz5 with rfl | rfl | rfl | rfl | rfl | rfl <;> simp only [Nat.reduceMul, Nat.reduceSub, Nat.reducePow] at o1 o2 ih ⊢ <;> split at ih <;> split <;> omega
    · rw [ltF_2] at ih ⊢
      rcases hz5 with rfl | rfl | rfl | rfl | rfl | rfl <;> simp only [Nat.reduceMul, Nat.reduceSub, Nat.reducePow] at o1 o2 ih ⊢ <;> split at ih <;> split <;> omega
    · rw [ltF_3] at ih ⊢
      rcases hz5 with rfl | rfl | rfl | rfl | rfl | rfl <;> simp only [Nat.reduceMul, Nat.reduceSub, Nat.reducePow] at o1 o2 ih ⊢ <;> split at ih <;> split <;> omega
    · rw [ltF_4] at ih ⊢
      rcases hz5 with rfl | rfl | rfl | rfl | rfl | rfl <;> simp only [Nat.reduceMul, Nat.reduceSub, Nat.reducePow] at o1 o2 ih ⊢ <;> split at ih <;> split <;> omega
    · rw [ltF_5] at ih ⊢
      rcases hz5 with rfl | rfl | rfl | rfl | rfl | rfl <;> simp only [Nat.reduceMul, Nat.reduceSub, Nat.reducePow] at o1 o2 ih ⊢ <;> split at ih <;> split <;> omega
theorem pkF_lt {tx : Nat → Nat} {a z : Nat} (hz : z ≤ 6) (h : ∀ j, j < z → 97 ≤ tx (a + j) ∧ tx (a + j) ≤ 122) : pkF tx a z < 1073741824 := by
  have := (pkF_ok h hz).2
  have h2 : 0 < 2 ^ (30 - 5 * z) := Nat.pow_pos (by decide)
  omega
