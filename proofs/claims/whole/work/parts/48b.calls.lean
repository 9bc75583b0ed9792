/-! a call, in both: undo and slots, queries -/
section
variable {keys names dep : Nat → Nat} {pos : Nat → Int} {cnt sc mg ids old hc : Nat} {rv qv : Nat → StV} {fl fz g : Nat → Int} {sv : Nat} {tx : Nat → Nat} {len : Nat}
theorem cs_undo (h : LI (keys, names, dep, pos, cnt, sc, mg, ids) old hc rv fl qv g sv fz tx len) : (hc = 0 ∧ sv = 0) ∨ (0 < hc ∧ 0 < sv ∧ ((hc - 1 : Nat) : Int) = ((sv - 1 : Nat) : Int) ∧ LI (rv ((old + (hc - 1)) % 6)) old (hc - 1) rv fl qv (cpF g sv 0 432) (sv - 1) fz tx len) := by
  have hN := h.nums
  by_cases c : 0 < sv
  · exact .inr ⟨by omega, c, by omega, h.1.undo c, h.2⟩
  · exact .inl ⟨by omega, by omega⟩
theorem sl_of (a : Int) : ¬ (0 ≤ a ∧ a < 2) ∨ ∃ k : Nat, a = ((k : Nat) : Int) ∧ k < 2 := by
  by_cases c : 0 ≤ a ∧ a < 2
  · exact .inr ⟨a.toNat, by omega, by omega⟩
  · exact .inl c
theorem cs_save (h : LI (keys, names, dep, pos, cnt, sc, mg, ids) old hc rv fl qv g sv fz tx len) (a : Int) : ¬ (0 ≤ a ∧ a < 2) ∨ ∃ k : Nat, a = ((k : Nat) : Int) ∧ k < 2 ∧ ((cnt : Nat) : Int) = g 0 ∧ LI (keys, names, dep, pos, cnt, sc, mg, ids) old hc rv (zU fl k 1) (zU qv k (keys, names, dep, pos, cnt, sc, mg, ids)) (cpF g 0 (7 + k) 432) sv (zU fz k 1) tx len := by
  rcases sl_of a with c | ⟨k, c1, c2⟩
  · exact .inl c
  · exact .inr ⟨k, c1, c2, h.1.1.1.1.symm, h.1.save c2, h.2⟩
theorem cs_restore (h : LI (keys, names, dep, pos, cnt, sc, mg, ids) old hc rv fl qv g sv fz tx len) (a : Int) : ¬ (0 ≤ a ∧ a < 2) ∨ (∃ k : Nat, a = ((k : Nat) : Int) ∧ k < 2 ∧ fl k = 0 ∧ fz k = 0) ∨ ∃ k : Nat, a = ((k : Nat) : Int) ∧ k < 2 ∧ fl k = 1 ∧ fz k = 1 ∧ (((qv k).2.2.2.2.1 : Nat) : Int) = g (432 * (7 + k)) ∧ LI (qv k) (phO old hc) (phC hc) (zU rv (phI old hc) (keys, names, dep, pos, cnt, sc, mg, ids)) fl qv (cpF (kpG g sv) (7 + k) 0 432) (kpS sv) fz tx len := by
  rcases sl_of a with c | ⟨k, c1, c2⟩
  · exact .inl c
  · obtain ⟨k1, k2, k3⟩ := h.1.2.2.2.2.2 k c2
    rcases k2 with z | z
    · exact .inr (.inl ⟨k, c1, c2, k1.trans z, z⟩)
    · exact .inr (.inr ⟨k, c1, c2, k1.trans z, z, (k3 z).1.1.symm, h.1.restore c2 z, h.2⟩)
-- queries about entries
theorem cs_idAt (h : LI (keys, names, dep, pos, cnt, sc, mg, ids) old hc rv fl qv g sv fz tx len) (a : Int) (ha : -2147483648 ≤ a ∧ a < 2147483648) : a < 0 ∨ ∃ n : Nat, a = ((n : Nat) : Int) ∧ n < 2147483648 ∧ (if n < cnt then ((keys n % 1000 : Nat) : Int) else -2) = (if n < cnt then mI g n 0 else -2) := by
  by_cases c : a < 0
  · exact .inl c
  · refine .inr ⟨a.toNat, by omega, by omega, ?_⟩
    by_cases z : a.toNat < cnt
    · rw [if_pos z, if_pos z]; exact (h.ent z).2.2.2.2.1
    · rw [if_neg z, if_neg z]
theorem cs_find (h : LI (keys, names, dep, pos, cnt, sc, mg, ids) old hc rv fl qv g sv fz tx len) : (nbF tx 0 len = 0 ∧ ¬ nmO tx len) ∨ (nbF tx 0 len ≠ 0 ∧ nmO tx len ∧ (if foF (nmP names (nbF tx 0 len)) cnt = -1 then -2 else ((keys (foF (nmP names (nbF tx 0 len)) cnt).toNat % 1000 : Nat) : Int)) = (if fo2 (mN g tx 0 len) cnt = -2 then -2 else mI g (fo2 (mN g tx 0 len) cnt).toNat 0)) := by
  rcases h.nm with a | ⟨b1, b2, b3, b4, b5, b6⟩
  · exact .inl a
  · refine .inr ⟨b1, b2, ?_⟩
    rcases b6 with ⟨c1, c2⟩ | ⟨c1, c2, c3, c4, c5⟩
    · rw [if_pos c1, if_pos c2]
    · rw [if_neg c2, if_neg c3, c1]
      exact (h.ent (by omega)).2.2.2.2.1
theorem cs_hashText (h : LI (keys, names, dep, pos, cnt, sc, mg, ids) old hc rv fl qv g sv fz tx len) : (nbF tx 0 len = 0 ∧ ¬ nmO tx len) ∨ (nbF tx 0 len ≠ 0 ∧ nmO tx len ∧ ((hsF (nbF tx 0 len) : Nat) : Int) = ((hhF tx 0 len : Nat) : Int)) := by
  rcases h.nm with a | ⟨b1, b2, b3, b4, b5, b6⟩
  · exact .inl a
  · exact .inr ⟨b1, b2, by rw [b3]⟩
theorem cs_hashOf (h : LI (keys, names, dep, pos, cnt, sc, mg, ids) old hc rv fl qv g sv fz tx len) (id : Int) : (foF (idP keys id) cnt = -1 ∧ fo2 (mP g id) cnt = -2) ∨ (foF (idP keys id) cnt ≠ -1 ∧ fo2 (mP g id) cnt ≠ -2 ∧ ((keys (foF (idP keys id) cnt).toNat / 1000 : Nat) : Int) = mI g (fo2 (mP g id) cnt).toNat 1) := by
  rcases h.id id with a | ⟨b1, b2, b3, b4, b5⟩
  · exact .inl a
  · refine .inr ⟨b2, b3, ?_⟩
    rw [b1]
    exact (h.ent (by omega)).2.2.2.1
theorem ltF_hi (nm i : Nat) (h : 6 ≤ i) : ltF nm i = 0 := if_neg (by omega)
theorem cs_letterOf (h : LI (keys, names, dep, pos, cnt, sc, mg, ids) old hc rv fl qv g sv fz tx len) (id ix : Int) (hi : -2147483648 ≤ ix ∧ ix < 2147483648) : (foF (idP keys id) cnt = -1 ∧ (fo2 (mP g id) cnt = -2 ∨ ix < 0)) ∨ (foF (idP keys id) cnt ≠ -1 ∧ ix < 0 ∧ (fo2 (mP g id) cnt = -2 ∨ ix < 0)) ∨
    ∃ n : Nat, ix = ((n : Nat) : Int) ∧ n < 2147483648 ∧ foF (idP keys id) cnt ≠ -1 ∧ fo2 (mP g id) cnt ≠ -2 ∧ (if ltF (names (foF (idP keys id) cnt).toNat) n = 0 then -2 else ((96 + ltF (names (foF (idP keys id) cnt).toNat) n : Nat) : Int)) = (if ((n : Nat) : Int) < mI g (fo2 (mP g id) cnt).toNat 2 then mI g (fo2 (mP g id) cnt).toNat (3 + n) else -2) := by
  rcases h.id id with a | ⟨b1, b2, b3, b4, b5⟩
  · exact .inl ⟨a.1, .inl a.2⟩
  · by_cases c : ix < 0
    · exact .inr (.inl ⟨b2, c, .inr c⟩)
    · refine .inr (.inr ⟨ix.toNat, by omega, by omega, b2, b3, ?_⟩)
      rw [b1]
      generalize ix.toNat = n at *
      have hE := h.1.1.2.2.1 (foF (idP keys id) cnt).toNat (show _ < cnt by omega)
      obtain ⟨-, -, -, -, -, e1, e2, e3, e4⟩ := hE
      dsimp only at *
      by_cases c6 : n < 6
      · obtain ⟨f1, f2⟩ := e4 n c6
        by_cases z : ((n : Nat) : Int) < mI g (foF (idP keys id) cnt).toNat 2
        · obtain ⟨g1, g2, g3⟩ := f1 z
          rw [if_pos z, if_neg (by omega)]
          omega
        · rw [if_neg z, if_pos (f2 (by omega))]
      · rw [if_pos (ltF_hi _ _ (by omega)), if_neg (by omega)]
theorem hs_of (a : Int) : ¬ (0 ≤ a ∧ a < 64) ∨ ∃ k : Nat, a = ((k : Nat) : Int) ∧ k < 64 := by
  by_cases c : 0 ≤ a ∧ a < 64
  · exact .inr ⟨a.toNat, by omega, by omega⟩
  · exact .inl c
theorem LI.cb (h : LI (keys, names, dep, pos, cnt, sc, mg, ids) old hc rv fl qv g sv fz tx len) {hh b : Nat} (h1 : hh < 64) (h2 : b < 7) : cbF keys cnt hh b = bgF g hh b cnt :=
  cb_bg h1 h2 h.nums.2.2.2.2.2.2 (fun k hk => by have := h.ent hk; exact ⟨this.1, this.2.1, this.2.2.1⟩)
theorem LI.dp (h : LI (keys, names, dep, pos, cnt, sc, mg, ids) old hc rv fl qv g sv fz tx len) {hh : Nat} (h1 : hh < 64) : dep hh = dpF g hh 6 0 := h.1.1.2.2.2.2.1.1 hh h1
theorem cs_withHash (h : LI (keys, names, dep, pos, cnt, sc, mg, ids) old hc rv fl qv g sv fz tx len) (a : Int) : ¬ (0 ≤ a ∧ a < 64) ∨ ∃ n : Nat, a = ((n : Nat) : Int) ∧ n < 64 ∧ ((cbF keys cnt n 6 : Nat) : Int) = ((bgF g n 6 cnt : Nat) : Int) := by
  rcases hs_of a with c | ⟨k, c1, c2⟩
  · exact .inl c
  · exact .inr ⟨k, c1, c2, by rw [h.cb c2 (by omega)]⟩
theorem cs_depthOf (h : LI (keys, names, dep, pos, cnt, sc, mg, ids) old hc rv fl qv g sv fz tx len) (a : Int) : ¬ (0 ≤ a ∧ a < 64) ∨ ∃ n : Nat, a = ((n : Nat) : Int) ∧ n < 64 ∧ ((dep n : Nat) : Int) = ((dpF g n 6 0 : Nat) : Int) := by
  rcases hs_of a with c | ⟨k, c1, c2⟩
  · exact .inl c
  · exact .inr ⟨k, c1, c2, by rw [h.dp c2]⟩
theorem cs_leafSize (h : LI (keys, names, dep, pos, cnt, sc, mg, ids) old hc rv fl qv g sv fz tx len) (a : Int) : ¬ (0 ≤ a ∧ a < 64) ∨ ∃ n : Nat, a = ((n : Nat) : Int) ∧ n < 64 ∧ ((cbF keys cnt n (dep n) : Nat) : Int) = ((bgF g n (dpF g n 6 0) cnt : Nat) : Int) := by
  rcases hs_of a with c | ⟨k, c1, c2⟩
  · exact .inl c
  · exact .inr ⟨k, c1, c2, by rw [h.cb c2 (h.facts.2.2.2.1 k c2), h.dp c2]⟩
-- queries about the tree
theorem dsF_cong {p q : Nat → Bool} : ∀ k d, (∀ e, d ≤ e → e < d + k → p e = q e) → dsF p k d = dsF q k d
  | 0, d, _ => rfl
  | k + 1, d, h => by
    show (if p d = true then dsF p k (d + 1) else d) = (if q d = true then dsF q k (d + 1) else d)
    rw [h d (Nat.le_refl d) (by omega), dsF_cong k (d + 1) (fun e a b => h e (by omega) (by omega))]
theorem dsF_ge (p : Nat → Bool) : ∀ k d, d ≤ dsF p k d
  | 0, d => Nat.le_refl d
  | k + 1, d => by
    show d ≤ (if p d = true then dsF p k (d + 1) else d)
    have := dsF_ge p k (d + 1)
    split <;> omega
theorem cs_leavesIf (h : LI (keys, names, dep, pos, cnt, sc, mg, ids) old hc rv fl qv g sv fz tx len) : (nbF tx 0 len = 0 ∧ ¬ nmO tx len) ∨ (nbF tx 0 len ≠ 0 ∧ nmO tx len ∧ ¬ (cnt < 40 ∧ (ids < 1000 ∧ foF (nmP names (nbF tx 0 len)) cnt = -1)) ∧ (¬ (fo2 (mN g tx 0 len) cnt = -2 ∧ g 1 < 1000) ∨ cnt = 40)) ∨
    (nbF tx 0 len ≠ 0 ∧ nmO tx len ∧ (cnt < 40 ∧ (ids < 1000 ∧ foF (nmP names (nbF tx 0 len)) cnt = -1)) ∧ (fo2 (mN g tx 0 len) cnt = -2 ∧ g 1 < 1000) ∧ cnt < 40 ∧
      ((lcF dep 64 + dsF (bgA keys cnt (hsF (nbF tx 0 len))) (6 - dep (hsF (nbF tx 0 len))) (dep (hsF (nbF tx 0 len))) - dep (hsF (nbF tx 0 len)) : Nat) : Int) = 1 + g 2 - g 3 + ((dsF (bgB g (hhF tx 0 len) cnt) (6 - (dpF g (hhF tx 0 len) 6 0)) (dpF g (hhF tx 0 len) 6 0) - (dpF g (hhF tx 0 len) 6 0) : Nat) : Int)) := by
  have hN := h.nums
  have hf := h.facts
  rcases h.nm with a | ⟨b1, b2, b3, b4, b5, b8⟩
  · exact .inl a
  · by_cases c : cnt < 40 ∧ (ids < 1000 ∧ foF (nmP names (nbF tx 0 len)) cnt = -1)
    · refine .inr (.inr ⟨b1, b2, c, ⟨by omega, by omega⟩, c.1, ?_⟩)
      have hh := hhF_lt tx 0 len
      rw [b3, ← h.dp hh]
      have hd := hf.2.2.2.1 _ hh
      rw [dsF_cong (p := bgA keys cnt (hhF tx 0 len)) (q := bgB g (hhF tx 0 len) cnt) (6 - dep (hhF tx 0 len)) (dep (hhF tx 0 len)) (fun e he1 he2 => by unfold bgA bgB; rw [h.cb hh (by omega)])]
      have := dsF_ge (bgB g (hhF tx 0 len) cnt) (6 - dep (hhF tx 0 len)) (dep (hhF tx 0 len))
      omega
    · refine .inr (.inl ⟨b1, b2, c, ?_⟩)
      by_cases c4 : cnt = 40
      · exact .inr c4
      · exact .inl (fun z => c ⟨by omega, by omega, by omega⟩)
-- queries about readers
theorem cs_position (h : LI (keys, names, dep, pos, cnt, sc, mg, ids) old hc rv fl qv g sv fz tx len) (a : Int) : ¬ (0 ≤ a ∧ a < 4) ∨ ∃ r : Nat, a = ((r : Nat) : Int) ∧ r < 4 ∧ pos r = g (4 + r) := by
  rcases rd_of a with c | ⟨r, c1, c2⟩
  · exact .inl c
  · exact .inr ⟨r, c1, c2, (h.rdp c2).1.symm⟩
theorem cs_peek (h : LI (keys, names, dep, pos, cnt, sc, mg, ids) old hc rv fl qv g sv fz tx len) (a : Int) : ¬ (0 ≤ a ∧ a < 4) ∨ ∃ r : Nat, a = ((r : Nat) : Int) ∧ r < 4 ∧ (if pos r = -2 then -2 else if paF keys cnt (pos r) < cnt then ((keys (paF keys cnt (pos r)) % 1000 : Nat) : Int) else -2) = (if g (4 + r) = -2 ∨ npF g r cnt = cnt then -2 else mI g (npF g r cnt) 0) := by
  rcases rd_of a with c | ⟨r, c1, c2⟩
  · exact .inl c
  · refine .inr ⟨r, c1, c2, ?_⟩
    have hl := paF_le keys cnt (pos r)
    rw [(h.rdp c2).1, h.np c2]
    by_cases z : pos r = -2
    · rw [if_pos z, if_pos (.inl z)]
    · rw [if_neg z]
      by_cases y : paF keys cnt (pos r) < cnt
      · rw [if_pos y, if_neg (fun q => q.elim z (fun w => by omega))]
        exact (h.ent y).2.2.2.2.1
      · rw [if_neg y, if_pos (.inr (by omega))]
theorem cs_remaining (h : LI (keys, names, dep, pos, cnt, sc, mg, ids) old hc rv fl qv g sv fz tx len) (a : Int) : ¬ (0 ≤ a ∧ a < 4) ∨ ∃ r : Nat, a = ((r : Nat) : Int) ∧ r < 4 ∧ (if pos r = -2 then -2 else ((cnt - paF keys cnt (pos r) : Nat) : Int)) = (if g (4 + r) = -2 then -2 else ((cnt - npF g r cnt : Nat) : Int)) := by
  rcases rd_of a with c | ⟨r, c1, c2⟩
  · exact .inl c
  · refine .inr ⟨r, c1, c2, ?_⟩
    rw [(h.rdp c2).1, h.np c2]
end
/-! as both are made -/
theorem TreeR_0 : TreeR (fun _ => 0) (fun _ => 0) := by
  refine ⟨fun h hh => ?_, fun n n1 n2 => ⟨.inl rfl, fun z => absurd z (show ¬ ((0 : Int) = 1) by decide)⟩⟩
  exact (dpF_stop (show (0 : Int) ≠ 1 by decide)).symm
theorem LI_0 : LI (fun _ => 0, fun _ => 0, fun _ => 0, (fun j => if j < 4 then -2 else 0), 0, 0, 0, 0) 0 0 (fun _ => (fun _ => 0, fun _ => 0, fun _ => 0, (fun j => if j < 4 then -2 else 0), 0, 0, 0, 0)) (fun _ => 0) (fun _ => (fun _ => 0, fun _ => 0, fun _ => 0, (fun j => if j < 4 then -2 else 0), 0, 0, 0, 0)) (fun j => if 4 ≤ j ∧ j < 8 then -2 else 0) 0 (fun _ => 0) (fun _ => 0) 0 := by
  have hv : ∀ j : Nat, (8 ≤ j ∨ j < 4) → (fun j : Nat => if 4 ≤ j ∧ j < 8 then (-2 : Int) else 0) j = 0 := fun j hj => if_neg (by omega)
  refine ⟨⟨⟨⟨hv 0 (by omega), hv 1 (by omega), hv 2 (by omega), hv 3 (by omega)⟩, fun r hr => ?_, fun k hk => absurd hk (Nat.not_lt_zero k), fun i j _ hj => absurd hj (Nat.not_lt_zero j), TreeR_0.cong (fun j h1 h2 => hv j (by omega)), ⟨by decide +kernel, by decide, by decide⟩, ⟨by decide, fun j _ => (show 0 < 64000 by decide), fun j _ => (show 0 < 1073741824 by decide), fun j _ => (show 0 < 7 by decide), by decide⟩, fun k hk => ?_, fun k hk => ?_, fun k hk => ?_⟩, rfl, by decide, by decide, fun i hi => absurd hi (Nat.not_lt_zero i), fun k hk => ⟨rfl, .inl rfl, fun z => absurd z (show ¬ ((0 : Int) = 1) by decide)⟩⟩, fun j hj => (show 0 < 128 by decide), Nat.zero_le _⟩
  · show (if 4 ≤ 4 + r ∧ 4 + r < 8 then (-2 : Int) else 0) = (if r < 4 then -2 else 0) ∧ -2 ≤ (if r < 4 then (-2 : Int) else 0) ∧ (if r < 4 then (-2 : Int) else 0) < 64000
    rw [if_pos (by omega), if_pos hr]; omega
  · show -2 ≤ (if 4 ≤ k ∧ k < 8 then (-2 : Int) else 0) ∧ (if 4 ≤ k ∧ k < 8 then (-2 : Int) else 0) < 70000
    split <;> omega
  · show 0 ≤ (if 4 ≤ 72 + 9 * k + 1 ∧ 72 + 9 * k + 1 < 8 then (-2 : Int) else 0) ∧ (if 4 ≤ 72 + 9 * k + 1 ∧ 72 + 9 * k + 1 < 8 then (-2 : Int) else 0) < 64
    rw [if_neg (by omega)]; omega
  · show 0 ≤ (if 4 ≤ 72 + 9 * k + 2 ∧ 72 + 9 * k + 2 < 8 then (-2 : Int) else 0) ∧ (if 4 ≤ 72 + 9 * k + 2 ∧ 72 + 9 * k + 2 < 8 then (-2 : Int) else 0) ≤ 6
    rw [if_neg (by omega)]; omega
