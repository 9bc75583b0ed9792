/-! a call, in both: the cases, the answers, what lies behind -/
def LI (s : StV) (old hc : Nat) (rv : Nat → StV) (fl : Nat → Int) (qv : Nat → StV) (g : Nat → Int) (sv : Nat) (fz : Nat → Int) (tx : Nat → Nat) (len : Nat) : Prop := Top s old hc rv fl qv g sv fz ∧ (∀ j, j < 80 → tx j < 128) ∧ len ≤ 80
section
variable {keys names dep : Nat → Nat} {pos : Nat → Int} {cnt sc mg ids old hc : Nat} {rv qv : Nat → StV} {fl fz g : Nat → Int} {sv : Nat} {tx : Nat → Nat} {len : Nat}
theorem LI.facts (h : LI (keys, names, dep, pos, cnt, sc, mg, ids) old hc rv fl qv g sv fz tx len) : cnt ≤ 40 ∧ (∀ j, j < 40 → keys j < 64000) ∧ (∀ j, j < 40 → names j < 1073741824) ∧ (∀ j, j < 64 → dep j < 7) ∧ (∀ j, j < 4 → -2 ≤ pos j ∧ pos j < 64000) ∧ ids < 2000 ∧ old < 6 ∧ hc ≤ 6 ∧ (∀ j, j < 2 → fl j = 0 ∨ fl j = 1) ∧ len ≤ 80 ∧ (∀ j, j < 80 → tx j < 128) ∧ g 0 = ((cnt : Nat) : Int) ∧ (∀ k, k < 432 → -2 ≤ g k ∧ g k < 70000) ∧ (∀ k, k < 40 → 0 ≤ mI g k 1 ∧ mI g k 1 < 64) ∧ sv ≤ 6 ∧ (0 ≤ g 2 ∧ g 2 < 49000) ∧ (0 ≤ g 3 ∧ g 3 < 49000) ∧ (0 ≤ g 1 ∧ g 1 < 2000) ∧ (∀ k, k < 40 → 0 ≤ mI g k 2 ∧ mI g k 2 ≤ 6) ∧ (∀ j, j < 2 → fz j = 0 ∨ fz j = 1) ∧ (0 < 1 + g 2 - g 3 ∧ 1 + g 2 - g 3 ≤ 64) := by
  obtain ⟨⟨⟨⟨a0, a1, a2, a3⟩, hp, hE, hS, hT, ⟨f1, f2, f3⟩, ⟨o1, o2, o3, o4, o5⟩, hr, hs, hn⟩, h2, h3, h4, h5, h6⟩, ht, hl⟩ := h
  dsimp only at *
  have p1 := lcF_pos dep
  have p2 := lcF_le dep 64
  refine ⟨o1, o2, o3, o4, fun j hj => (hp j hj).2, o5, h4, by omega, fun j hj => ?_, hl, ht, a0, hr, hs, h3, ⟨by omega, by omega⟩, ⟨by omega, by omega⟩, ⟨by omega, by omega⟩, hn, fun j hj => (h6 j hj).2.1, ⟨by omega, by omega⟩⟩
  obtain ⟨k1, k2, -⟩ := h6 j hj
  rw [k1]; exact k2
theorem LI.sim (h : LI (keys, names, dep, pos, cnt, sc, mg, ids) old hc rv fl qv g sv fz tx len) : Sim (keys, names, dep, pos, cnt, sc, mg, ids) g := h.1.1
/-- the numbers of both -/
theorem LI.nums (h : LI (keys, names, dep, pos, cnt, sc, mg, ids) old hc rv fl qv g sv fz tx len) : g 1 = ((ids : Nat) : Int) ∧ g 2 = ((sc : Nat) : Int) ∧ g 3 = ((mg : Nat) : Int) ∧ hc = sv ∧ ((lcF dep 64 : Nat) : Int) = 1 + g 2 - g 3 ∧ ids ≤ 1000 ∧ srtF keys cnt := by
  obtain ⟨⟨⟨⟨a0, a1, a2, a3⟩, hp, hE, hS, hT, ⟨f1, f2, f3⟩, -⟩, h2, -⟩, -⟩ := h
  dsimp only at *
  exact ⟨a1, a2, a3, h2, by omega, f3, hS⟩
theorem LI.ent (h : LI (keys, names, dep, pos, cnt, sc, mg, ids) old hc rv fl qv g sv fz tx len) {k : Nat} (hk : k < cnt) : 0 ≤ mI g k 1 ∧ mI g k 1 < 64 ∧ keys k / 1000 = (mI g k 1).toNat ∧ ((keys k / 1000 : Nat) : Int) = mI g k 1 ∧ ((keys k % 1000 : Nat) : Int) = mI g k 0 ∧ mK g k = ((keys k : Nat) : Int) := by
  obtain ⟨e1, e2, e3, e4, e5, e6, e7⟩ := (h.1.1.2.2.1 k hk).key h.1.1.2.2.2.2.2.1.2.2
  dsimp only at *
  refine ⟨e1, e2, e3, by omega, by omega, ?_⟩
  rw [e5]; rfl
theorem LI.rdp (h : LI (keys, names, dep, pos, cnt, sc, mg, ids) old hc rv fl qv g sv fz tx len) {r : Nat} (hr : r < 4) : g (4 + r) = pos r ∧ -2 ≤ pos r ∧ pos r < 64000 := h.1.1.2.1 r hr
theorem LI.nm (h : LI (keys, names, dep, pos, cnt, sc, mg, ids) old hc rv fl qv g sv fz tx len) : (nbF tx 0 len = 0 ∧ ¬ nmO tx len) ∨ (nbF tx 0 len ≠ 0 ∧ nmO tx len ∧ hsF (nbF tx 0 len) = hhF tx 0 len ∧ nbF tx 0 len = pkF tx 0 len ∧ (1 ≤ len ∧ len ≤ 6 ∧ ∀ j, j < len → 97 ≤ tx (0 + j) ∧ tx (0 + j) ≤ 122) ∧ ((foF (nmP names (nbF tx 0 len)) cnt = -1 ∧ fo2 (mN g tx 0 len) cnt = -2) ∨ (fo2 (mN g tx 0 len) cnt = foF (nmP names (nbF tx 0 len)) cnt ∧ foF (nmP names (nbF tx 0 len)) cnt ≠ -1 ∧ fo2 (mN g tx 0 len) cnt ≠ -2 ∧ 0 ≤ foF (nmP names (nbF tx 0 len)) cnt ∧ foF (nmP names (nbF tx 0 len)) cnt < (cnt : Int)))) := by
  by_cases hb : nbF tx 0 len = 0
  · exact .inl ⟨hb, fun z => nb_ok.mp z hb⟩
  · have hn := nb_ok.mpr hb
    have hl := nm_l hn
    have hp := nb_pk hn
    have h1 := hn.1
    refine .inr ⟨hb, hn, ?_, hp, ⟨h1.1, h1.2, hl⟩, ?_⟩
    · rw [hp]; exact hsF_pk h1.2 hl
    · have := fo_both (sim_name h.1.1 h1.2 hl)
      rw [hp]
      exact this
theorem LI.id (h : LI (keys, names, dep, pos, cnt, sc, mg, ids) old hc rv fl qv g sv fz tx len) (id : Int) : (foF (idP keys id) cnt = -1 ∧ fo2 (mP g id) cnt = -2) ∨ (fo2 (mP g id) cnt = foF (idP keys id) cnt ∧ foF (idP keys id) cnt ≠ -1 ∧ fo2 (mP g id) cnt ≠ -2 ∧ 0 ≤ foF (idP keys id) cnt ∧ foF (idP keys id) cnt < (cnt : Int)) := fo_both (sim_id h.1.1 id)
theorem LI.np (h : LI (keys, names, dep, pos, cnt, sc, mg, ids) old hc rv fl qv g sv fz tx len) {r : Nat} (hr : r < 4) : npF g r cnt = paF keys cnt (pos r) := by
  refine fiF_cong (fun k hk => decide_eq_decide.mpr ?_)
  rw [(h.ent hk).2.2.2.2.2, (h.rdp hr).1]
theorem sim_pos (h : Sim (keys, names, dep, pos, cnt, sc, mg, ids) g) {r : Nat} (hr : r < 4) {v : Int} (hv : -2 ≤ v ∧ v < 64000) : Sim (keys, names, dep, zU pos r v, cnt, sc, mg, ids) (zU g (4 + r) v) := by
  obtain ⟨⟨a0, a1, a2, a3⟩, hp, hE, hS, hT, hf, ho, hrg, hs, hn⟩ := h
  have hI : ∀ k w, mI (zU g (4 + r) v) k w = mI g k w := fun k w => zU_I (by omega)
  refine ⟨⟨by rw [zU_n _ _ (by omega)]; exact a0, by rw [zU_n _ _ (by omega)]; exact a1, by rw [zU_n _ _ (by omega)]; exact a2, by rw [zU_n _ _ (by omega)]; exact a3⟩, fun j hj => ?_, fun k hk => (hE k hk).cong (fun w hw => hI k w), hS, hT.cong (fun j h1 h2 => zU_n _ _ (by omega)), hf, ho, zU_rg hrg (by omega), fun k hk => ?_, fun k hk => ?_⟩
  · show zU g (4 + r) v (4 + j) = zU pos r v j ∧ -2 ≤ zU pos r v j ∧ zU pos r v j < 64000
    by_cases c : j = r
    · subst c; rw [zU_s, zU_s]; exact ⟨rfl, hv⟩
    · rw [zU_n _ _ c, zU_n _ _ (by omega)]; exact hp j hj
  · rw [hI]; exact hs k hk
  · rw [hI]; exact hn k hk
theorem LI.moved (h : LI (keys, names, dep, pos, cnt, sc, mg, ids) old hc rv fl qv g sv fz tx len) {r : Nat} (hr : r < 4) {v : Int} (hv : -2 ≤ v ∧ v < 64000) : LI (keys, names, dep, zU pos r v, cnt, sc, mg, ids) (phO old hc) (phC hc) (zU rv (phI old hc) (keys, names, dep, pos, cnt, sc, mg, ids)) fl qv (zU (kpG g sv) (4 + r) v) (kpS sv) fz tx len :=
  ⟨h.1.push (sim_pos (h.1.1.kp h.1.2.2.1) hr hv) (fun j hj => zU_n _ _ (by omega)), h.2⟩
theorem LI.kept (h : LI (keys, names, dep, pos, cnt, sc, mg, ids) old hc rv fl qv g sv fz tx len) : LI (keys, names, dep, pos, cnt, sc, mg, ids) (phO old hc) (phC hc) (zU rv (phI old hc) (keys, names, dep, pos, cnt, sc, mg, ids)) fl qv (kpG g sv) (kpS sv) fz tx len := ⟨h.1.same, h.2⟩
-- entries
theorem cs_add (h : LI (keys, names, dep, pos, cnt, sc, mg, ids) old hc rv fl qv g sv fz tx len) : (nbF tx 0 len = 0 ∧ ¬ nmO tx len) ∨ (nbF tx 0 len ≠ 0 ∧ nmO tx len ∧ ¬ (cnt < 40 ∧ (ids < 1000 ∧ foF (nmP names (nbF tx 0 len)) cnt = -1)) ∧ (¬ (fo2 (mN g tx 0 len) cnt = -2 ∧ g 1 < 1000) ∨ cnt = 40)) ∨
    (nbF tx 0 len ≠ 0 ∧ nmO tx len ∧ (cnt < 40 ∧ (ids < 1000 ∧ foF (nmP names (nbF tx 0 len)) cnt = -1)) ∧ (fo2 (mN g tx 0 len) cnt = -2 ∧ g 1 < 1000) ∧ cnt < 40 ∧ ((ids : Nat) : Int) = g 1 ∧
      LI (mkK keys cnt (nbF tx 0 len) ids, mkN keys names cnt (nbF tx 0 len) ids, (mkT keys dep cnt sc (nbF tx 0 len) ids).1, pos, cnt + 1, (mkT keys dep cnt sc (nbF tx 0 len) ids).2, mg, ids + 1) (phO old hc) (phC hc) (zU rv (phI old hc) (keys, names, dep, pos, cnt, sc, mg, ids)) fl qv (mkR (kpG g sv) tx 0 len cnt) (kpS sv) fz tx 0) := by
  have hf := h.facts
  have hN := h.nums
  rcases h.nm with a | ⟨b1, b2, b3, b4, ⟨b5, b6, b7⟩, b8⟩
  · exact .inl a
  · by_cases c : cnt < 40 ∧ (ids < 1000 ∧ foF (nmP names (nbF tx 0 len)) cnt = -1)
    · refine .inr (.inr ⟨b1, b2, c, ⟨by omega, by omega⟩, c.1, hN.1.symm, ?_, h.2.1, Nat.zero_le _⟩)
      refine h.1.push ?_ (fun j hj => mkR_hi _ _ _ _ _ c.1 hj)
      rw [b4]
      exact sim_mk (h.1.1.kp h.1.2.2.1) b5 b6 (by omega) h.2.1 b7 c.1 c.2.1
    · refine .inr (.inl ⟨b1, b2, c, ?_⟩)
      by_cases c4 : cnt = 40
      · exact .inr c4
      · exact .inl (fun z => c ⟨by omega, by omega, by omega⟩)
theorem cs_remove (h : LI (keys, names, dep, pos, cnt, sc, mg, ids) old hc rv fl qv g sv fz tx len) (id : Int) : (foF (idP keys id) cnt = -1 ∧ fo2 (mP g id) cnt = -2) ∨ (foF (idP keys id) cnt ≠ -1 ∧ fo2 (mP g id) cnt ≠ -2 ∧
      LI (shL keys (foF (idP keys id) cnt).toNat (cnt - 1), shL names (foF (idP keys id) cnt).toNat (cnt - 1), (rmT keys dep cnt mg (foF (idP keys id) cnt).toNat).1, pos, cnt - 1, sc, (rmT keys dep cnt mg (foF (idP keys id) cnt).toNat).2, ids) (phO old hc) (phC hc) (zU rv (phI old hc) (keys, names, dep, pos, cnt, sc, mg, ids)) fl qv (mtR (kpG g sv) cnt (fo2 (mP g id) cnt).toNat) (kpS sv) fz tx len) := by
  have hf := h.facts
  rcases h.id id with a | ⟨b1, b2, b3, b4, b5⟩
  · exact .inl a
  · refine .inr ⟨b2, b3, ?_, h.2⟩
    rw [b1]
    have hs := h.1.1.kp h.1.2.2.1
    exact h.1.push (sim_mt hs (k := (foF (idP keys id) cnt).toNat) (by show _ < cnt; omega)) (fun j hj => mtR_hi _ _ _ hf.1 (mI_h hs.2.2.2.2.2.2.2.2.1 (by omega)) hj)
theorem cs_rename (h : LI (keys, names, dep, pos, cnt, sc, mg, ids) old hc rv fl qv g sv fz tx len) (id : Int) : (foF (idP keys id) cnt = -1 ∧ fo2 (mP g id) cnt = -2) ∨ (foF (idP keys id) cnt ≠ -1 ∧ fo2 (mP g id) cnt ≠ -2 ∧ nbF tx 0 len = 0 ∧ ¬ nmO tx len) ∨
    (foF (idP keys id) cnt ≠ -1 ∧ fo2 (mP g id) cnt ≠ -2 ∧ nbF tx 0 len ≠ 0 ∧ nmO tx len ∧ ¬ (ids < 1000 ∧ foF (nmP names (nbF tx 0 len)) cnt = -1) ∧ ¬ (fo2 (mN g tx 0 len) cnt = -2 ∧ g 1 < 1000)) ∨
    (foF (idP keys id) cnt ≠ -1 ∧ fo2 (mP g id) cnt ≠ -2 ∧ nbF tx 0 len ≠ 0 ∧ nmO tx len ∧ (ids < 1000 ∧ foF (nmP names (nbF tx 0 len)) cnt = -1) ∧ (fo2 (mN g tx 0 len) cnt = -2 ∧ g 1 < 1000) ∧ ((ids : Nat) : Int) = g 1 ∧
      LI (mkK (shL keys (foF (idP keys id) cnt).toNat (cnt - 1)) (cnt - 1) (nbF tx 0 len) ids, mkN (shL keys (foF (idP keys id) cnt).toNat (cnt - 1)) (shL names (foF (idP keys id) cnt).toNat (cnt - 1)) (cnt - 1) (nbF tx 0 len) ids, (mkT (shL keys (foF (idP keys id) cnt).toNat (cnt - 1)) ((rmT keys dep cnt mg (foF (idP keys id) cnt).toNat).1) (cnt - 1) sc (nbF tx 0 len) ids).1, pos, cnt - 1 + 1, (mkT (shL keys (foF (idP keys id) cnt).toNat (cnt - 1)) ((rmT keys dep cnt mg (foF (idP keys id) cnt).toNat).1) (cnt - 1) sc (nbF tx 0 len) ids).2, (rmT keys dep cnt mg (foF (idP keys id) cnt).toNat).2, ids + 1) (phO old hc) (phC hc) (zU rv (phI old hc) (keys, names, dep, pos, cnt, sc, mg, ids)) fl qv (mkR (mtR (kpG g sv) cnt (fo2 (mP g id) cnt).toNat) tx 0 len (cnt - 1)) (kpS sv) fz tx 0) := by
  have hf := h.facts
  have hN := h.nums
  rcases h.id id with a | ⟨a1, a2, a3, a4, a5⟩
  · exact .inl a
  · rcases h.nm with b | ⟨b1, b2, b3, b4, ⟨b5, b6, b7⟩, b8⟩
    · exact .inr (.inl ⟨a2, a3, b⟩)
    · by_cases c : ids < 1000 ∧ foF (nmP names (nbF tx 0 len)) cnt = -1
      · refine .inr (.inr (.inr ⟨a2, a3, b1, b2, c, ⟨by omega, by omega⟩, hN.1.symm, ?_, h.2.1, Nat.zero_le _⟩))
        have hs := h.1.1.kp h.1.2.2.1
        have hm := sim_mt hs (k := (foF (idP keys id) cnt).toNat) (by show _ < cnt; omega)
        rw [a1, b4]
        refine h.1.push (sim_mk hm b5 b6 (by omega) h.2.1 b7 (by show cnt - 1 < 40; omega) c.1) (fun j hj => ?_)
        show mkR (mtR (kpG g sv) cnt (foF (idP keys id) cnt).toNat) tx 0 len (cnt - 1) j = _
        rw [mkR_hi _ _ _ _ _ (by omega) hj]
        exact mtR_hi _ _ _ hf.1 (mI_h hs.2.2.2.2.2.2.2.2.1 (by omega)) hj
      · exact .inr (.inr (.inl ⟨a2, a3, b1, b2, c, fun z => c ⟨by omega, by omega⟩⟩))
-- readers
theorem orF_cong {p q : Nat → Int} : ∀ n, (∀ j, j < n → p j = q j) → orF p n = orF q n
  | 0, _ => rfl
  | n + 1, h => by
    show orF p n + (if p n ≠ -2 then 1 else 0) = orF q n + (if q n ≠ -2 then 1 else 0)
    rw [orF_cong n (fun j hj => h j (by omega)), h n (by omega)]
theorem rd_of (a : Int) : ¬ (0 ≤ a ∧ a < 4) ∨ ∃ r : Nat, a = ((r : Nat) : Int) ∧ r < 4 := by
  by_cases c : 0 ≤ a ∧ a < 4
  · exact .inr ⟨a.toNat, by omega, by omega⟩
  · exact .inl c
theorem cs_open (h : LI (keys, names, dep, pos, cnt, sc, mg, ids) old hc rv fl qv g sv fz tx len) (a : Int) : ¬ (0 ≤ a ∧ a < 4) ∨ ∃ r : Nat, a = ((r : Nat) : Int) ∧ r < 4 ∧ ((orF (zU pos r (-1)) 4 : Nat) : Int) = ((orF (fun j => zU (kpG g sv) (4 + r) (-1) (4 + j)) 4 : Nat) : Int) ∧
      LI (keys, names, dep, zU pos r (-1), cnt, sc, mg, ids) (phO old hc) (phC hc) (zU rv (phI old hc) (keys, names, dep, pos, cnt, sc, mg, ids)) fl qv (zU (kpG g sv) (4 + r) (-1)) (kpS sv) fz tx len := by
  rcases rd_of a with c | ⟨r, c, hr⟩
  · exact .inl c
  · refine .inr ⟨r, c, hr, ?_, h.moved hr (by omega)⟩
    congr 1
    refine orF_cong 4 (fun j hj => ?_)
    show zU pos r (-1) j = zU (kpG g sv) (4 + r) (-1) (4 + j)
    by_cases z : j = r
    · subst z; rw [zU_s, zU_s]
    · rw [zU_n _ _ z, zU_n _ _ (by omega), kpG_lo g h.1.2.2.1 (by omega)]; exact (h.rdp hj).1.symm
/-- a reader that is open, or closed -/
theorem cs_rd (h : LI (keys, names, dep, pos, cnt, sc, mg, ids) old hc rv fl qv g sv fz tx len) (a : Int) : ¬ (0 ≤ a ∧ a < 4) ∨ (∃ r : Nat, a = ((r : Nat) : Int) ∧ r < 4 ∧ ¬ (pos r ≠ -2) ∧ ¬ ((0 ≤ ((r : Nat) : Int) ∧ ((r : Nat) : Int) ≤ 3) ∧ g (4 + (((r : Nat) : Int)).toNat) ≠ -2)) ∨ ∃ r : Nat, a = ((r : Nat) : Int) ∧ r < 4 ∧ pos r ≠ -2 ∧ ((0 ≤ ((r : Nat) : Int) ∧ ((r : Nat) : Int) ≤ 3) ∧ g (4 + (((r : Nat) : Int)).toNat) ≠ -2) := by
  rcases rd_of a with c | ⟨r, c, hr⟩
  · exact .inl c
  · have hg := (h.rdp hr).1
    by_cases hp : pos r = -2
    · exact .inr (.inl ⟨r, c, hr, fun z => z hp, fun z => z.2 (by rw [Int.toNat_natCast, hg]; exact hp)⟩)
    · exact .inr (.inr ⟨r, c, hr, hp, ⟨by omega, by omega⟩, by rw [Int.toNat_natCast, hg]; exact hp⟩)
theorem cs_close (h : LI (keys, names, dep, pos, cnt, sc, mg, ids) old hc rv fl qv g sv fz tx len) (a : Int) : ¬ (0 ≤ a ∧ a < 4) ∨ (∃ r : Nat, a = ((r : Nat) : Int) ∧ r < 4 ∧ ¬ (pos r ≠ -2) ∧ ¬ ((0 ≤ ((r : Nat) : Int) ∧ ((r : Nat) : Int) ≤ 3) ∧ g (4 + (((r : Nat) : Int)).toNat) ≠ -2)) ∨ ∃ r : Nat, a = ((r : Nat) : Int) ∧ r < 4 ∧ pos r ≠ -2 ∧ ((0 ≤ ((r : Nat) : Int) ∧ ((r : Nat) : Int) ≤ 3) ∧ g (4 + (((r : Nat) : Int)).toNat) ≠ -2) ∧ pos r = g (4 + r) ∧
      LI (keys, names, dep, zU pos r (-2), cnt, sc, mg, ids) (phO old hc) (phC hc) (zU rv (phI old hc) (keys, names, dep, pos, cnt, sc, mg, ids)) fl qv (zU (kpG g sv) (4 + r) (-2)) (kpS sv) fz tx len := by
  rcases cs_rd h a with c | c | ⟨r, c1, c2, c3, c4⟩
  · exact .inl c
  · exact .inr (.inl c)
  · exact .inr (.inr ⟨r, c1, c2, c3, c4, (h.rdp c2).1.symm, h.moved c2 (by omega)⟩)
theorem LI.npk (h : LI (keys, names, dep, pos, cnt, sc, mg, ids) old hc rv fl qv g sv fz tx len) {r : Nat} (hr : r < 4) : npF (kpG g sv) r cnt = paF keys cnt (pos r) := h.kept.np hr
theorem cs_next (h : LI (keys, names, dep, pos, cnt, sc, mg, ids) old hc rv fl qv g sv fz tx len) (a : Int) : ¬ (0 ≤ a ∧ a < 4) ∨ (∃ r : Nat, a = ((r : Nat) : Int) ∧ r < 4 ∧ ¬ (pos r ≠ -2) ∧ ¬ ((0 ≤ ((r : Nat) : Int) ∧ ((r : Nat) : Int) ≤ 3) ∧ g (4 + (((r : Nat) : Int)).toNat) ≠ -2)) ∨
    (∃ r : Nat, a = ((r : Nat) : Int) ∧ r < 4 ∧ pos r ≠ -2 ∧ ((0 ≤ ((r : Nat) : Int) ∧ ((r : Nat) : Int) ≤ 3) ∧ g (4 + (((r : Nat) : Int)).toNat) ≠ -2) ∧ paF keys cnt (pos r) = cnt ∧ npF (kpG g sv) r cnt = cnt ∧ LI (keys, names, dep, pos, cnt, sc, mg, ids) (phO old hc) (phC hc) (zU rv (phI old hc) (keys, names, dep, pos, cnt, sc, mg, ids)) fl qv (kpG g sv) (kpS sv) fz tx len) ∨
    ∃ r : Nat, a = ((r : Nat) : Int) ∧ r < 4 ∧ pos r ≠ -2 ∧ ((0 ≤ ((r : Nat) : Int) ∧ ((r : Nat) : Int) ≤ 3) ∧ g (4 + (((r : Nat) : Int)).toNat) ≠ -2) ∧ paF keys cnt (pos r) < cnt ∧ npF (kpG g sv) r cnt ≠ cnt ∧ ((keys (paF keys cnt (pos r)) % 1000 : Nat) : Int) = mI (kpG g sv) (npF (kpG g sv) r cnt) 0 ∧
      LI (keys, names, dep, zU pos r ((keys (paF keys cnt (pos r)) : Nat) : Int), cnt, sc, mg, ids) (phO old hc) (phC hc) (zU rv (phI old hc) (keys, names, dep, pos, cnt, sc, mg, ids)) fl qv (zU (kpG g sv) (4 + r) (mK (kpG g sv) (npF (kpG g sv) r cnt))) (kpS sv) fz tx len := by
  have hf := h.facts
  rcases cs_rd h a with c | c | ⟨r, c1, c2, c3, c4⟩
  · exact .inl c
  · exact .inr (.inl c)
  · have hn := h.npk c2
    have hl := paF_le keys cnt (pos r)
    by_cases hz : paF keys cnt (pos r) = cnt
    · exact .inr (.inr (.inl ⟨r, c1, c2, c3, c4, hz, by rw [hn]; exact hz, h.kept⟩))
    · have he := h.kept.ent (k := paF keys cnt (pos r)) (by omega)
      have hk := hf.2.1 (paF keys cnt (pos r)) (by omega)
      refine .inr (.inr (.inr ⟨r, c1, c2, c3, c4, by omega, by rw [hn]; exact hz, ?_, ?_⟩))
      · rw [hn]; exact he.2.2.2.2.1
      · rw [hn, he.2.2.2.2.2]
        exact h.moved c2 (by omega)
theorem LI.el (h : LI (keys, names, dep, pos, cnt, sc, mg, ids) old hc rv fl qv g sv fz tx len) {p : Nat} (hp : p < cnt) : elF keys dep cnt p = rlF (rlS g (mI g p 1).toNat (6 - dpF g (mI g p 1).toNat 6 0)) (cnt - p) p ∧ p < elF keys dep cnt p ∧ elF keys dep cnt p ≤ cnt := by
  have hf := h.facts
  have hN := h.nums
  obtain ⟨e1, e2, e3, -⟩ := h.ent hp
  have hh : (mI g p 1).toNat < 64 := by omega
  have hd : dep (keys p / 1000) < 7 := hf.2.2.2.1 _ (by omega)
  have he := el_rl (dep := dep) hN.2.2.2.2.2.2 hp (fun k hk => by have := h.ent hk; exact ⟨this.1, this.2.1, this.2.2.1⟩) hd
  rw [e3] at he
  rw [← h.1.1.2.2.2.2.1.1 _ hh]
  refine ⟨he, ?_, paF_le _ _ _⟩
  rw [he]
  obtain ⟨r1, r2, r3, r4⟩ := rlF_p (same := rlS g (mI g p 1).toNat (6 - dep (mI g p 1).toNat)) (cnt - p) p
  rcases Nat.eq_or_lt_of_le r1 with z | z
  · exfalso
    have := r4 (by omega)
    rw [← z] at this
    exact absurd rfl (of_decide_eq_false this)
  · exact z
theorem cs_readLeaf (h : LI (keys, names, dep, pos, cnt, sc, mg, ids) old hc rv fl qv g sv fz tx len) (a : Int) : ¬ (0 ≤ a ∧ a < 4) ∨ (∃ r : Nat, a = ((r : Nat) : Int) ∧ r < 4 ∧ ¬ (pos r ≠ -2) ∧ ¬ ((0 ≤ ((r : Nat) : Int) ∧ ((r : Nat) : Int) ≤ 3) ∧ g (4 + (((r : Nat) : Int)).toNat) ≠ -2)) ∨
    (∃ r : Nat, a = ((r : Nat) : Int) ∧ r < 4 ∧ pos r ≠ -2 ∧ ((0 ≤ ((r : Nat) : Int) ∧ ((r : Nat) : Int) ≤ 3) ∧ g (4 + (((r : Nat) : Int)).toNat) ≠ -2) ∧ (if paF keys cnt (pos r) < cnt then elF keys dep cnt (paF keys cnt (pos r)) else paF keys cnt (pos r)) ≤ paF keys cnt (pos r) ∧ npF (kpG g sv) r cnt = cnt ∧ LI (keys, names, dep, pos, cnt, sc, mg, ids) (phO old hc) (phC hc) (zU rv (phI old hc) (keys, names, dep, pos, cnt, sc, mg, ids)) fl qv (kpG g sv) (kpS sv) fz tx len) ∨
    ∃ r : Nat, a = ((r : Nat) : Int) ∧ r < 4 ∧ pos r ≠ -2 ∧ ((0 ≤ ((r : Nat) : Int) ∧ ((r : Nat) : Int) ≤ 3) ∧ g (4 + (((r : Nat) : Int)).toNat) ≠ -2) ∧ paF keys cnt (pos r) < (if paF keys cnt (pos r) < cnt then elF keys dep cnt (paF keys cnt (pos r)) else paF keys cnt (pos r)) ∧ npF (kpG g sv) r cnt ≠ cnt ∧
      (((if paF keys cnt (pos r) < cnt then elF keys dep cnt (paF keys cnt (pos r)) else paF keys cnt (pos r)) - paF keys cnt (pos r) : Nat) : Int) = ((rlF (rlS (kpG g sv) (mI (kpG g sv) (npF (kpG g sv) r cnt) 1).toNat (6 - dpF (kpG g sv) (mI (kpG g sv) (npF (kpG g sv) r cnt) 1).toNat 6 0)) (cnt - npF (kpG g sv) r cnt) (npF (kpG g sv) r cnt) - npF (kpG g sv) r cnt : Nat) : Int) ∧
      LI (keys, names, dep, zU pos r ((keys ((if paF keys cnt (pos r) < cnt then elF keys dep cnt (paF keys cnt (pos r)) else paF keys cnt (pos r)) - 1) : Nat) : Int), cnt, sc, mg, ids) (phO old hc) (phC hc) (zU rv (phI old hc) (keys, names, dep, pos, cnt, sc, mg, ids)) fl qv (rlG (kpG g sv) r (npF (kpG g sv) r cnt) (rlF (rlS (kpG g sv) (mI (kpG g sv) (npF (kpG g sv) r cnt) 1).toNat (6 - dpF (kpG g sv) (mI (kpG g sv) (npF (kpG g sv) r cnt) 1).toNat 6 0)) (cnt - npF (kpG g sv) r cnt) (npF (kpG g sv) r cnt))) (kpS sv) fz tx len := by
  have hf := h.facts
  rcases cs_rd h a with c | c | ⟨r, c1, c2, c3, c4⟩
  · exact .inl c
  · exact .inr (.inl c)
  · have hn := h.npk c2
    have hl := paF_le keys cnt (pos r)
    by_cases hz : paF keys cnt (pos r) = cnt
    · exact .inr (.inr (.inl ⟨r, c1, c2, c3, c4, by rw [if_neg (by omega)]; exact Nat.le_refl _, by rw [hn]; exact hz, h.kept⟩))
    · obtain ⟨e1, e2, e3⟩ := h.kept.el (p := paF keys cnt (pos r)) (by omega)
      have hk := hf.2.1 (elF keys dep cnt (paF keys cnt (pos r)) - 1) (by omega)
      refine .inr (.inr (.inr ⟨r, c1, c2, c3, c4, ?_, ?_, ?_, ?_⟩))
      · rw [if_pos (by omega)]; exact e2
      · rw [hn]; exact hz
      · rw [hn, ← e1, if_pos (by omega)]
      · rw [hn, ← e1, if_pos (show paF keys cnt (pos r) < cnt by omega)]
        unfold rlG
        rw [if_pos e2, (h.kept.ent (k := elF keys dep cnt (paF keys cnt (pos r)) - 1) (by omega)).2.2.2.2.2]
        exact h.moved c2 (by omega)
theorem cs_seek (h : LI (keys, names, dep, pos, cnt, sc, mg, ids) old hc rv fl qv g sv fz tx len) (a a2 : Int) : ¬ (0 ≤ a ∧ a < 4) ∨ (∃ r : Nat, a = ((r : Nat) : Int) ∧ r < 4 ∧ ¬ (-1 ≤ a2 ∧ a2 ≤ 63999)) ∨ (∃ r : Nat, a = ((r : Nat) : Int) ∧ r < 4 ∧ (-1 ≤ a2 ∧ a2 ≤ 63999) ∧ ¬ (pos r ≠ -2) ∧ ¬ ((0 ≤ ((r : Nat) : Int) ∧ ((r : Nat) : Int) ≤ 3) ∧ g (4 + (((r : Nat) : Int)).toNat) ≠ -2)) ∨ ∃ r : Nat, a = ((r : Nat) : Int) ∧ r < 4 ∧ (-1 ≤ a2 ∧ a2 ≤ 63999) ∧ pos r ≠ -2 ∧ ((0 ≤ ((r : Nat) : Int) ∧ ((r : Nat) : Int) ≤ 3) ∧ g (4 + (((r : Nat) : Int)).toNat) ≠ -2) ∧ pos r = g (4 + r) ∧
      LI (keys, names, dep, zU pos r a2, cnt, sc, mg, ids) (phO old hc) (phC hc) (zU rv (phI old hc) (keys, names, dep, pos, cnt, sc, mg, ids)) fl qv (zU (kpG g sv) (4 + r) a2) (kpS sv) fz tx len := by
  by_cases hp : -1 ≤ a2 ∧ a2 ≤ 63999
  · rcases cs_rd h a with c | ⟨r, c1, c2, c3, c4⟩ | ⟨r, c1, c2, c3, c4⟩
    · exact .inl c
    · exact .inr (.inr (.inl ⟨r, c1, c2, hp, c3, c4⟩))
    · exact .inr (.inr (.inr ⟨r, c1, c2, hp, c3, c4, (h.rdp c2).1.symm, h.moved c2 (by omega)⟩))
  · rcases rd_of a with c | ⟨r, c1, c2⟩
    · exact .inl c
    · exact .inr (.inl ⟨r, c1, c2, hp⟩)
-- texts
theorem cs_append (h : LI (keys, names, dep, pos, cnt, sc, mg, ids) old hc rv fl qv g sv fz tx len) (a : Int) : ¬ (32 ≤ a ∧ a ≤ 126) ∨ (∃ ch : Nat, a = ((ch : Nat) : Int) ∧ (32 ≤ ch ∧ ch ≤ 126) ∧ ¬ (len < 80) ∧ len = 80) ∨ ∃ ch : Nat, a = ((ch : Nat) : Int) ∧ (32 ≤ ch ∧ ch ≤ 126) ∧ len < 80 ∧ len ≠ 80 ∧ LI (keys, names, dep, pos, cnt, sc, mg, ids) old hc rv fl qv g sv fz (zU tx len ch) (len + 1) := by
  have hl := h.2.2
  by_cases c : 32 ≤ a ∧ a ≤ 126
  · by_cases c8 : len < 80
    · refine .inr (.inr ⟨a.toNat, by omega, by omega, c8, by omega, h.1, fun j hj => ?_, by omega⟩)
      by_cases z : j = len
      · subst z; rw [zU_s]; omega
      · rw [zU_n _ _ z]; exact h.2.1 j hj
    · exact .inr (.inl ⟨a.toNat, by omega, by omega, c8, by omega⟩)
  · exact .inl c
theorem cs_clear (h : LI (keys, names, dep, pos, cnt, sc, mg, ids) old hc rv fl qv g sv fz tx len) : LI (keys, names, dep, pos, cnt, sc, mg, ids) old hc rv fl qv g sv fz tx 0 := ⟨h.1, h.2.1, Nat.zero_le _⟩
theorem cs_err (h : LI (keys, names, dep, pos, cnt, sc, mg, ids) old hc rv fl qv g sv fz tx len) (p : Nat × Int × Nat × Nat × Nat × Nat) (hp : p.1 = 0) : ceF tx len len 0 0 0 = if (acF tx len (len + 1) p).1 = true then -2 else (((acF tx len (len + 1) p).2.1 : Nat) : Int) := by
  have := ac_ce (tx := tx) (ln := len) (len + 1) p (by omega) (by omega)
  rw [this, hp, Nat.sub_zero]
theorem cs_run (h : LI (keys, names, dep, pos, cnt, sc, mg, ids) old hc rv fl qv g sv fz tx len) (p : Nat × Int × Nat × Nat × Nat × Nat) (hp : p.1 = 0) : (ceF tx len len 0 0 0 ≠ -2 ∧ ¬ ((acF tx len (len + 1) p).1 = true)) ∨ (ceF tx len len 0 0 0 = -2 ∧ (acF tx len (len + 1) p).1 = true ∧ (((rtF tx len (len + 1) 0 0 0 (keys, names, dep, pos, cnt, sc, mg, ids)).1 : Nat) : Int) = (((mxF tx len (len + 1) 0 (kpG g sv) (0, (acF tx len (len + 1) p).2.2)).1 : Nat) : Int) ∧
      LI (rtF tx len (len + 1) 0 0 0 (keys, names, dep, pos, cnt, sc, mg, ids)).2 (phO old hc) (phC hc) (zU rv (phI old hc) (keys, names, dep, pos, cnt, sc, mg, ids)) fl qv (mxF tx len (len + 1) 0 (kpG g sv) (0, (acF tx len (len + 1) p).2.2)).2.1 (kpS sv) fz tx len) := by
  have hc9 := cs_err h p hp
  by_cases hv : (acF tx len (len + 1) p).1 = true
  · rw [if_pos hv] at hc9
    have hva : VaF tx len 0 := ⟨len + 1, p, hp, hv⟩
    have hs := h.1.1.kp h.1.2.2.1
    have hr := run_both h.2.1 h.2.2 (len + 1) (0, (acF tx len (len + 1) p).2.2) 0 (keys, names, dep, pos, cnt, sc, mg, ids) (kpG g sv) (Nat.zero_le _) (Nat.le_refl _) hva hs
    have hh := run_hi h.2.1 h.2.2 (len + 1) (0, (acF tx len (len + 1) p).2.2) 0 (keys, names, dep, pos, cnt, sc, mg, ids) (kpG g sv) (Nat.zero_le _) (Nat.le_refl _) hva hs
    refine .inr ⟨hc9, hv, ?_, h.1.push hr.2 hh, h.2⟩
    exact congrArg (fun n : Nat => (n : Int)) hr.1
  · rw [if_neg hv] at hc9
    exact .inl ⟨by omega, hv⟩
end
