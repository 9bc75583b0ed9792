/-! the saved states and the slots: the class's ring and the reference's rows -/
def rowF (g : Nat → Int) (t : Nat) : Nat → Int := fun j => g (432 * t + j)
theorem EnR.cong2 {e e2 : Nat → Int} {K N ids : Nat} (h : EnR e K N ids) (hc : ∀ w, w < 9 → e2 w = e w) : EnR e2 K N ids := h.cong hc
theorem Sim.cong {s : StV} {g g2 : Nat → Int} (h : Sim s g) (hc : ∀ j, j < 432 → g2 j = g j) : Sim s g2 := by
  obtain ⟨⟨a0, a1, a2, a3⟩, hp, hE, hS, hT, hf, ho, hr, hs, hn⟩ := h
  have h40 := ho.1
  have hI : ∀ k w, k < 40 → w < 9 → mI g2 k w = mI g k w := fun k w hk hw => hc _ (by omega)
  refine ⟨⟨by rw [hc 0 (by omega)]; exact a0, by rw [hc 1 (by omega)]; exact a1, by rw [hc 2 (by omega)]; exact a2, by rw [hc 3 (by omega)]; exact a3⟩, fun r hr4 => ?_, fun k hk => (hE k hk).cong (fun w hw => hI k w (by omega) hw), hS, hT.cong (fun j h1 h2 => hc j (by omega)), hf, ho, fun k hk => ?_, fun k hk => ?_, fun k hk => ?_⟩
  · rw [hc (4 + r) (by omega)]; exact hp r hr4
  · rw [hc k hk]; exact hr k hk
  · rw [hI k 1 hk (by omega)]; exact hs k hk
  · rw [hI k 2 hk (by omega)]; exact hn k hk
def Top (s : StV) (old hc : Nat) (rv : Nat → StV) (fl : Nat → Int) (qv : Nat → StV) (g : Nat → Int) (sv : Nat) (fz : Nat → Int) : Prop :=
  Sim s g ∧ hc = sv ∧ sv ≤ 6 ∧ old < 6 ∧ (∀ i, i < sv → Sim (rv ((old + i) % 6)) (rowF g (i + 1))) ∧ (∀ k, k < 2 → fl k = fz k ∧ (fz k = 0 ∨ fz k = 1) ∧ (fz k = 1 → Sim (qv k) (rowF g (7 + k))))
theorem kpL_row (g : Nat → Int) : ∀ n t j, n ≤ 5 → j < 432 → kpL g n (432 * t + j) = if 1 ≤ t ∧ t ≤ n then g (432 * (t + 1) + j) else g (432 * t + j)
  | 0, t, j, _, _ => by rw [if_neg (by omega)]; rfl
  | n + 1, t, j, hn, hj => by
    show cpF (kpL g n) (n + 2) (n + 1) 432 (432 * t + j) = _
    unfold cpF
    by_cases c : t = n + 1
    · subst c
      rw [if_pos (by omega), if_pos (by omega), show 432 * (n + 2) + (432 * (n + 1) + j - 432 * (n + 1)) = 432 * (n + 2) + j by omega, kpL_row g n (n + 2) j (by omega) hj, if_neg (by omega)]
    · rw [if_neg (by omega), kpL_row g n t j (by omega) hj]
      by_cases c2 : 1 ≤ t ∧ t ≤ n
      · rw [if_pos c2, if_pos (by omega)]
      · rw [if_neg c2, if_neg (by omega)]
theorem kpG_row (g : Nat → Int) {sv t j : Nat} (hs : sv ≤ 6) (ht1 : 1 ≤ t) (ht : t ≤ kpS sv) (hj : j < 432) : kpG g sv (432 * t + j) = if t = kpS sv then g j else if sv = 6 then g (432 * (t + 1) + j) else g (432 * t + j) := by
  unfold kpG
  by_cases c : t = kpS sv
  · rw [if_pos c, ← c]
    unfold cpF
    rw [if_pos (by omega), show 432 * 0 + (432 * t + j - 432 * t) = j by omega]
    split
    · exact kpL_lo g 5 j hj
    · rfl
  · rw [if_neg c]
    unfold cpF
    rw [if_neg (by omega)]
    split
    · rename_i h6
      have : kpS sv = 6 := by unfold kpS; rw [if_neg (by omega)]; exact h6
      rw [kpL_row g 5 t j (by omega) hj, if_pos (by omega)]
    · rfl
/-- a state saved, and another made of the same one -/
theorem Top.push {s s9 : StV} {old hc sv : Nat} {rv qv : Nat → StV} {fl fz : Nat → Int} {g g9 : Nat → Int} (h : Top s old hc rv fl qv g sv fz) (h9 : Sim s9 g9) (hg : ∀ j, 432 ≤ j → g9 j = kpG g sv j) : Top s9 (phO old hc) (phC hc) (zU rv (phI old hc) s) fl qv g9 (kpS sv) fz := by
  obtain ⟨h1, rfl, h3, h4, h5, h6⟩ := h
  have hS : phC hc = kpS hc := by unfold phC phK kpS; split <;> split <;> omega
  have hS6 : kpS hc ≤ 6 := by unfold kpS; split <;> omega
  have hO : phO old hc < 6 := by unfold phO; split <;> omega
  refine ⟨h9, hS, hS6, hO, fun i hi => ?_, fun k hk => ?_⟩
  · have hrow : ∀ j, j < 432 → rowF g9 (i + 1) j = if i + 1 = kpS hc then g j else if hc = 6 then g (432 * (i + 1 + 1) + j) else g (432 * (i + 1) + j) := fun j hj => by
      unfold rowF
      rw [hg _ (by omega)]
      exact kpG_row g h3 (by omega) (by omega) hj
    by_cases c : i + 1 = kpS hc
    · have hI : (phO old hc + i) % 6 = phI old hc := by unfold phI; rw [← hS] at c; unfold phC at c; rw [show i = phK hc by omega]
      rw [hI, zU_s]
      exact h1.cong (fun j hj => by rw [hrow j hj, if_pos c])
    · have hne : (phO old hc + i) % 6 ≠ phI old hc := by
        unfold phI
        rw [← hS] at c hi hS6
        unfold phC at c hi hS6
        omega
      rw [zU_n _ _ hne]
      by_cases c6 : hc = 6
      · have := h5 (i + 1) (by unfold kpS at hi c; rw [if_neg (by omega)] at hi c; omega)
        rw [show (phO old hc + i) % 6 = (old + (i + 1)) % 6 by unfold phO; rw [if_pos c6]; omega]
        exact this.cong (fun j hj => by rw [hrow j hj, if_neg c, if_pos c6]; rfl)
      · have := h5 i (by unfold kpS at hi c; rw [if_pos (by omega)] at hi c; omega)
        rw [show phO old hc = old by unfold phO; rw [if_neg c6]]
        exact this.cong (fun j hj => by rw [hrow j hj, if_neg c, if_neg c6]; rfl)
  · obtain ⟨k1, k2, k3⟩ := h6 k hk
    refine ⟨k1, k2, fun z => (k3 z).cong (fun j hj => ?_)⟩
    unfold rowF
    rw [hg _ (by omega)]
    exact kpG_hi g h3 (by omega)
theorem Top.undo {s : StV} {old hc sv : Nat} {rv qv : Nat → StV} {fl fz : Nat → Int} {g : Nat → Int} (h : Top s old hc rv fl qv g sv fz) (h0 : 0 < sv) : Top (rv ((old + (hc - 1)) % 6)) old (hc - 1) rv fl qv (cpF g sv 0 432) (sv - 1) fz := by
  obtain ⟨h1, rfl, h3, h4, h5, h6⟩ := h
  have hhi : ∀ j, 432 ≤ j → cpF g hc 0 432 j = g j := fun j hj => by unfold cpF; rw [if_neg (by omega)]
  refine ⟨?_, rfl, by omega, h4, fun i hi => (h5 i (by omega)).cong (fun j hj => ?_), fun k hk => ?_⟩
  · refine (h5 (hc - 1) (by omega)).cong (fun j hj => ?_)
    unfold cpF rowF
    rw [if_pos (by omega), show hc - 1 + 1 = hc by omega, show j - 432 * 0 = j by omega]
  · unfold rowF; exact hhi _ (by omega)
  · obtain ⟨k1, k2, k3⟩ := h6 k hk
    exact ⟨k1, k2, fun z => (k3 z).cong (fun j hj => by unfold rowF; exact hhi _ (by omega))⟩
theorem Top.save {s : StV} {old hc sv k : Nat} {rv qv : Nat → StV} {fl fz : Nat → Int} {g : Nat → Int} (h : Top s old hc rv fl qv g sv fz) (hk : k < 2) : Top s old hc rv (zU fl k 1) (zU qv k s) (cpF g 0 (7 + k) 432) sv (zU fz k 1) := by
  obtain ⟨h1, rfl, h3, h4, h5, h6⟩ := h
  refine ⟨h1.cong (fun j hj => cpF_lo g 0 (by omega) hj), rfl, h3, h4, fun i hi => (h5 i hi).cong (fun j hj => ?_), fun i hi => ?_⟩
  · unfold rowF cpF; rw [if_neg (by omega)]
  · by_cases c : i = k
    · subst c
      rw [zU_s, zU_s, zU_s]
      refine ⟨rfl, .inr rfl, fun _ => h1.cong (fun j hj => ?_)⟩
      unfold rowF cpF
      rw [if_pos (by omega), show 432 * 0 + (432 * (7 + i) + j - 432 * (7 + i)) = j by omega]
    · rw [zU_n _ _ c, zU_n _ _ c, zU_n _ _ c]
      obtain ⟨k1, k2, k3⟩ := h6 i hi
      refine ⟨k1, k2, fun z => (k3 z).cong (fun j hj => ?_)⟩
      unfold rowF cpF
      rw [if_neg (by omega)]
theorem Top.restore {s : StV} {old hc sv k : Nat} {rv qv : Nat → StV} {fl fz : Nat → Int} {g : Nat → Int} (h : Top s old hc rv fl qv g sv fz) (hk : k < 2) (hf : fz k = 1) : Top (qv k) (phO old hc) (phC hc) (zU rv (phI old hc) s) fl qv (cpF (kpG g sv) (7 + k) 0 432) (kpS sv) fz := by
  have h3 := h.2.2.1
  refine h.push ?_ (fun j hj => by unfold cpF; rw [if_neg (by omega)])
  refine ((h.2.2.2.2.2 k hk).2.2 hf).cong (fun j hj => ?_)
  unfold cpF rowF
  rw [if_pos (by omega), show j - 432 * 0 = j by omega]
  exact kpG_hi g h3 (by omega)
theorem Top.same {s : StV} {old hc sv : Nat} {rv qv : Nat → StV} {fl fz : Nat → Int} {g : Nat → Int} (h : Top s old hc rv fl qv g sv fz) : Top s (phO old hc) (phC hc) (zU rv (phI old hc) s) fl qv (kpG g sv) (kpS sv) fz :=
  h.push (h.1.cong (fun j hj => kpG_lo g h.2.2.1 hj)) (fun _ _ => rfl)
theorem Sim.kp {s : StV} {g : Nat → Int} {sv : Nat} (h : Sim s g) (hs : sv ≤ 6) : Sim s (kpG g sv) := h.cong (fun j hj => kpG_lo g hs hj)
/-- what lies above the row stays -/
theorem mkR_hi (g : Nat → Int) (tx : Nat → Nat) (a z cnt : Nat) {j : Nat} (hc : cnt < 40) (hj : 432 ≤ j) : mkR g tx a z cnt j = g j := by
  have hH := hhF_lt tx a z
  have hp := mpF_le g (1000 * ((hhF tx a z : Nat) : Int) + g 1) cnt
  unfold mkR
  generalize mpF g (1000 * ((hhF tx a z : Nat) : Int) + g 1) cnt = p at *
  have hd := dpF_le (mkG g tx a z cnt p) (hhF tx a z) 6 0
  rw [msF_n hH (by omega) (by omega) _ _ _ (by omega), mkG_hi _ _ _ _ _ _ (by omega)]
  unfold mkE mlF mhW mhF
  rw [if_neg (by omega), zU_n _ _ (by omega), zU_n _ _ (by omega), zU_n _ _ (by omega), if_neg (by omega)]
theorem mtR_hi (g : Nat → Int) (cnt k : Nat) {j : Nat} (hc : cnt ≤ 40) (hh : (mI g k 1).toNat < 64) (hj : 432 ≤ j) : mtR g cnt k j = g j := by
  rw [mtR_n g cnt k hh (by omega) (by omega)]
  unfold mtF
  rw [if_neg (by omega), if_neg (by omega)]
theorem isD_hi {s : StV} {g g9 : Nat → Int} {tx : Nat → Nat} {sg : Int} {f1 l1 f2 l2 : Nat} (h : Sim s g) (hok : isD tx sg f1 l1 f2 l2 s.2.2.2.2.1 g = some g9) : ∀ j, 432 ≤ j → g9 j = g j := by
  intro j hj
  have h40 : s.2.2.2.2.1 ≤ 40 := h.2.2.2.2.2.2.1.1
  by_cases h1 : sg = 43
  · obtain ⟨h2, rfl⟩ := isD_add h1 hok
    exact mkR_hi _ _ _ _ _ h2.2 hj
  · have h2 := isD_else h1 hok
    have h3 := fo2_ge (mN g tx f1 l1) s.2.2.2.2.1 h2.1
    have hh := mI_h h.2.2.2.2.2.2.2.2.1 (show (fo2 (mN g tx f1 l1) s.2.2.2.2.1).toNat < 40 by omega)
    by_cases h4 : sg = 61
    · rw [isD_ren h4 hok, mkR_hi _ _ _ _ _ (by omega) hj]
      exact mtR_hi _ _ _ h40 hh hj
    · unfold isD at hok
      rw [if_neg h1, if_pos h2, if_neg h4] at hok
      obtain rfl := Option.some.inj hok
      exact mtR_hi _ _ _ h40 hh hj
theorem run_hi {tx : Nat → Nat} {ln : Nat} (ht : ∀ j, j < 80 → tx j < 128) (hln : ln ≤ 80) : ∀ (n : Nat) (p : PsV) (ex : Nat) (s : StV) (g : Nat → Int), p.1 ≤ ln → ln + 1 ≤ n + p.1 → VaF tx ln p.1 → Sim s g → ∀ j, 432 ≤ j → (mxF tx ln n ex g p).2.1 j = g j
  | 0, p, ex, s, g, h1, h2, _, _ => by omega
  | n + 1, p, ex, s, g, h1, h2, hv, hs => by
    obtain ⟨hb, he⟩ := VaF_cmd p.2.2.2.2.1 p.2.2.2.2.2 hv
    obtain ⟨hr, hno⟩ := cm_rel p.2.2.2.2.1 p.2.2.2.2.2 h1 hln hb
    have hlt := rcP_lt p.2.2.2.2.1 p.2.2.2.2.2 hb
    have hcn : (g 0).toNat = s.2.2.2.2.1 := by rw [hs.1.1]; rfl
    intro j hj
    rcases sim_cm hs ht hr with ⟨c1, c2⟩ | ⟨s9, g9, c1, c2, c3⟩
    · rw [← hcn] at c2
      rw [mxF_e2 (Nat.succ_pos n) hb c2]
    · have hh := isD_hi hs c2 j hj
      rw [← hcn] at c2
      rcases he with he | ⟨e1, e2, e3⟩
      · have q1 := mxF_next (ex := ex) (n := n + 1) (v := ln) (Nat.succ_pos n) hb c2 (by rw [if_neg (by clear hb; omega)]; exact he)
        have q2 := mxF_e1 (tx := tx) (ln := ln) (n := n) (ex := ex + 1) (g := g9) (p := (ln, (rcP tx ln p.1 p.2.2.2.2.1 p.2.2.2.2.2).2)) (by clear hb; omega) (rcB_end tx ln)
        rw [q1, Nat.add_sub_cancel, q2]
        exact hh
      · have q1 := mxF_next (ex := ex) (n := n + 1) (v := (rcP tx ln p.1 p.2.2.2.2.1 p.2.2.2.2.2).1 + 1) (Nat.succ_pos n) hb c2 (if_pos ⟨e1, e2⟩)
        rw [q1, Nat.add_sub_cancel]
        exact (run_hi ht hln n ((rcP tx ln p.1 p.2.2.2.2.1 p.2.2.2.2.2).1 + 1, (rcP tx ln p.1 p.2.2.2.2.1 p.2.2.2.2.2).2) (ex + 1) s9 g9 (by clear hb; show _ + 1 ≤ ln; omega) (by clear hb; show ln + 1 ≤ n + (_ + 1); omega) e3 c3 j hj).trans hh
