/-! the class's state and the reference's row: the same -/
def Sim (s : StV) (g : Nat → Int) : Prop :=
  (g 0 = ((s.2.2.2.2.1 : Nat) : Int) ∧ g 1 = ((s.2.2.2.2.2.2.2 : Nat) : Int) ∧ g 2 = ((s.2.2.2.2.2.1 : Nat) : Int) ∧ g 3 = ((s.2.2.2.2.2.2.1 : Nat) : Int)) ∧ (∀ r, r < 4 → g (4 + r) = s.2.2.2.1 r ∧ -2 ≤ s.2.2.2.1 r ∧ s.2.2.2.1 r < 64000) ∧
  (∀ k, k < s.2.2.2.2.1 → EnR (mI g k) (s.1 k) (s.2.1 k) s.2.2.2.2.2.2.2) ∧ srtF s.1 s.2.2.2.2.1 ∧ TreeR s.2.2.1 g ∧
  (lcF s.2.2.1 64 + s.2.2.2.2.2.2.1 = 1 + s.2.2.2.2.2.1 ∧ s.2.2.2.2.2.1 ≤ 6 * s.2.2.2.2.2.2.2 ∧ s.2.2.2.2.2.2.2 ≤ 1000) ∧ okS s ∧
  (∀ k, k < 432 → -2 ≤ g k ∧ g k < 70000) ∧ (∀ k, k < 40 → 0 ≤ mI g k 1 ∧ mI g k 1 < 64) ∧ (∀ k, k < 40 → 0 ≤ mI g k 2 ∧ mI g k 2 ≤ 6)
theorem EnR.key {e : Nat → Int} {K N ids : Nat} (h : EnR e K N ids) (hi : ids ≤ 1000) : 0 ≤ e 1 ∧ e 1 < 64 ∧ K / 1000 = (e 1).toNat ∧ K % 1000 = (e 0).toNat ∧ (K : Int) = 1000 * e 1 + e 0 ∧ 0 ≤ e 0 ∧ e 0 < (ids : Int) := by
  obtain ⟨a, b, c, d, f, -⟩ := h
  refine ⟨c, d, ?_, ?_, f, a, b⟩ <;> omega
theorem inF_v (f : Nat → Nat) (p n x j : Nat) : inF f p n x j = if j = p then x else if p < j ∧ j ≤ n then f (j - 1) else f j := rfl
theorem shL_v (f : Nat → Nat) (p n j : Nat) : shL f p n j = if p ≤ j ∧ j < n then f (j + 1) else f j := rfl
theorem sim_okM {s : StV} {g : Nat → Int} (h : Sim s g) : okM 6000 6000 g := by
  obtain ⟨⟨a0, a1, a2, a3⟩, -, -, -, -, ⟨f1, f2, f3⟩, o, r, hs, -⟩ := h
  have := o.1
  have := lcF_pos s.2.2.1
  refine ⟨by omega, by omega, r, hs, by omega, by omega, by omega⟩
theorem sim_mk {s : StV} {g : Nat → Int} {tx : Nat → Nat} {a z : Nat} (h : Sim s g) (hz1 : 1 ≤ z) (hz : z ≤ 6) (haz : a + z ≤ 80) (ht : ∀ j, j < 80 → tx j < 128) (hl : ∀ j, j < z → 97 ≤ tx (a + j) ∧ tx (a + j) ≤ 122) (hc : s.2.2.2.2.1 < 40) (hi : s.2.2.2.2.2.2.2 < 1000) : Sim (mkS (pkF tx a z) s) (mkR g tx a z s.2.2.2.2.1) := by
  have hM := sim_okM h
  obtain ⟨K, N, dep, pos, cnt, sc, mg, ids⟩ := s
  obtain ⟨⟨a0, a1, a2, a3⟩, hp, hE, hS, hT, ⟨f1, f2, f3⟩, ho, hr, hs, hn⟩ := h
  dsimp only at *
  have hnm := pkF_lt hz hl
  have hhs := hsF_pk hz hl
  have hH := hhF_lt tx a z
  have hD := pkF_dig z hz hl
  have ho2 := okS_mk ho hc hi hnm
  have hM2 := okM_mk hM a0 hc (by omega) (by omega) ht haz hz
  have hkey : 1000 * ((hhF tx a z : Nat) : Int) + g 1 = ((hhF tx a z * 1000 + ids : Nat) : Int) := by omega
  have hmK : ∀ k, k < cnt → mK g k = ((K k : Nat) : Int) := fun k hk => (hE k hk).key f3 |>.2.2.2.2.1.symm
  have hpa := mpF_pa (g := g) (K := K) (key := ((hhF tx a z * 1000 + ids : Nat) : Int)) cnt hS hmK
  have hcl := cnL_p (key := ((hhF tx a z * 1000 + ids : Nat) : Int)) cnt hS
  rw [← paF_cn hS] at hcl
  have hple := paF_le K cnt ((hhF tx a z * 1000 + ids : Nat) : Int)
  have emk : mkS (pkF tx a z) (K, N, dep, pos, cnt, sc, mg, ids) = (inF K (paF K cnt ((hhF tx a z * 1000 + ids : Nat) : Int)) cnt (hhF tx a z * 1000 + ids), inF N (paF K cnt ((hhF tx a z * 1000 + ids : Nat) : Int)) cnt (pkF tx a z), (spF (bgS (inF K (paF K cnt ((hhF tx a z * 1000 + ids : Nat) : Int)) cnt (hhF tx a z * 1000 + ids)) (cnt + 1) (hhF tx a z)) (hhF tx a z) (6 - dep (hhF tx a z)) (dep (hhF tx a z)) (dep, sc)).1, pos, cnt + 1, (spF (bgS (inF K (paF K cnt ((hhF tx a z * 1000 + ids : Nat) : Int)) cnt (hhF tx a z * 1000 + ids)) (cnt + 1) (hhF tx a z)) (hhF tx a z) (6 - dep (hhF tx a z)) (dep (hhF tx a z)) (dep, sc)).2, mg, ids + 1) := by
    unfold mkS mkT mkK mkN
    simp only [hhs]
  have emR : mkR g tx a z cnt = msF (hhF tx a z) (cnt + 1) (6 - dpF (mkG g tx a z cnt (paF K cnt ((hhF tx a z * 1000 + ids : Nat) : Int))) (hhF tx a z) 6 0) (dpF (mkG g tx a z cnt (paF K cnt ((hhF tx a z * 1000 + ids : Nat) : Int))) (hhF tx a z) 6 0) (mkG g tx a z cnt (paF K cnt ((hhF tx a z * 1000 + ids : Nat) : Int))) := by
    unfold mkR
    rw [hkey, hpa]
  rw [emk] at ho2 ⊢
  rw [emR] at hM2 ⊢
  generalize hpd : paF K cnt ((hhF tx a z * 1000 + ids : Nat) : Int) = p at *
  have hGI := fun k w (hw : w < 9) => mkG_I g tx a z cnt p (k := k) (w := w) hw
  have hGlo := fun j (h1 : j < 72) (h2 : 2 ≤ j) => mkG_lo g tx a z cnt p h1 h2
  have hG0 := mkG_0 g tx a z cnt p
  have hG1 : mkG g tx a z cnt p 1 = g 1 + 1 := zU_s _ _ _
  generalize mkG g tx a z cnt p = G at *
  have hTG : TreeR dep G := hT.cong (fun j h1 h2 => hGlo j h2 (by omega))
  rw [← hTG.1 _ hH] at hM2 ⊢
  -- the rows
  have hEG : ∀ k, k < cnt + 1 → EnR (mI G k) (inF K p cnt (hhF tx a z * 1000 + ids) k) (inF N p cnt (pkF tx a z) k) (ids + 1) := by
    intro k hk
    rw [inF_v, inF_v]
    rcases Nat.lt_trichotomy k p with c | c | c
    · rw [if_neg (by omega), if_neg (by omega), if_neg (by omega), if_neg (by omega)]
      exact ((hE k (by omega)).cong (fun w hw => by rw [hGI k w hw, if_pos c])).more (by omega)
    · rw [if_pos c, if_pos c]
      have e := fun w (hw : w < 9) => hGI k w hw
      refine EnR.cong (e := fun w => if w = 0 then g 1 else if w = 1 then ((hhF tx a z : Nat) : Int) else if w = 2 then ((z : Nat) : Int) else if w - 3 < z then ((tx (a + (w - 3)) : Nat) : Int) else 0) ?_ (fun w hw => by rw [e w hw, if_neg (by omega), if_pos c])
      refine ⟨by show 0 ≤ g 1; omega, by show g 1 < ((ids + 1 : Nat) : Int); omega, by show 0 ≤ ((hhF tx a z : Nat) : Int); omega, by show ((hhF tx a z : Nat) : Int) < 64; omega, by show _ = 1000 * ((hhF tx a z : Nat) : Int) + g 1; omega, by show 1 ≤ ((z : Nat) : Int); omega, by show ((z : Nat) : Int) ≤ 6; omega, hnm, fun r hr6 => ?_⟩
      have hd := hD r hr6
      have hv : (fun w => if w = 0 then g 1 else if w = 1 then ((hhF tx a z : Nat) : Int) else if w = 2 then ((z : Nat) : Int) else if w - 3 < z then ((tx (a + (w - 3)) : Nat) : Int) else 0) (3 + r) = if r < z then ((tx (a + r) : Nat) : Int) else 0 := by
        show (if 3 + r = 0 then g 1 else if 3 + r = 1 then ((hhF tx a z : Nat) : Int) else if 3 + r = 2 then ((z : Nat) : Int) else if 3 + r - 3 < z then ((tx (a + (3 + r - 3)) : Nat) : Int) else 0) = _
        rw [if_neg (by omega), if_neg (by omega), if_neg (by omega), show 3 + r - 3 = r by omega]
      rw [hv]
      constructor
      · intro h9
        have h9 : ((r : Nat) : Int) < ((z : Nat) : Int) := h9
        rw [if_pos (by omega)] at hd ⊢
        have := hl r (by omega)
        omega
      · intro h9
        have h9 : ((z : Nat) : Int) ≤ ((r : Nat) : Int) := h9
        rw [if_neg (by omega)] at hd
        exact hd
    · rw [if_neg (by omega), if_pos (by omega), if_neg (by omega), if_pos (by omega)]
      exact ((hE (k - 1) (by omega)).cong (fun w hw => by rw [hGI k w hw, if_neg (by omega), if_neg (by omega), if_pos (by omega)])).more (by omega)
  have hSG : srtF (inF K p cnt (hhF tx a z * 1000 + ids)) (cnt + 1) := by
    have hlow : ∀ j, j < p → K j < hhF tx a z * 1000 + ids := fun j hj => by
      have h1 := hcl.1 j hj
      have h2 := (hE j (by omega)).key f3
      omega
    have hhigh : ∀ j, p ≤ j → j < cnt → hhF tx a z * 1000 + ids < K j := fun j h1 h2 => by
      have := hcl.2 j h1 h2
      omega
    intro i j hij hj
    rw [inF_v, inF_v]
    by_cases ci : i = p
    · rw [if_pos ci, if_neg (by omega), if_pos (by omega)]
      exact hhigh _ (by omega) (by omega)
    · rw [if_neg ci]
      by_cases cj : j = p
      · rw [if_pos cj, if_neg (by omega)]
        exact hlow i (by omega)
      · rw [if_neg cj]
        by_cases c1 : p < i
        · rw [if_pos (by omega), if_pos (by omega)]
          exact hS _ _ (by omega) (by omega)
        · rw [if_neg (by omega)]
          by_cases c2 : p < j
          · rw [if_pos (by omega)]
            have h1 := hlow i (by omega)
            have h2 := hhigh (j - 1) (by omega) (by omega)
            omega
          · rw [if_neg (by omega)]
            exact hS i j hij (by omega)
  have hcb : ∀ k, k < cnt + 1 → 0 ≤ mI G k 1 ∧ mI G k 1 < 64 ∧ inF K p cnt (hhF tx a z * 1000 + ids) k / 1000 = (mI G k 1).toNat := fun k hk => by
    have := (hEG k hk).key (by omega)
    exact ⟨this.1, this.2.1, this.2.2.1⟩
  have hd6 : dep (hhF tx a z) < 7 := ho.2.2.2.1 _ hH
  have hsp := split_both (m := mg) (cnt := cnt + 1) (big := bgS (inF K p cnt (hhF tx a z * 1000 + ids)) (cnt + 1) (hhF tx a z)) hH (6 - dep (hhF tx a z)) (dep (hhF tx a z)) dep sc G (by omega) hTG rfl f1 (fun e he => by
    unfold bgS
    rw [cb_bg hH he hSG hcb]) (by omega) (by rw [hGlo 2 (by omega) (by omega)]; exact a2)
  have hd0 := dpF_le G (hhF tx a z) 6 0
  have m0 := fun j (h3 : j ≠ 2) (hj : j < 8 ∨ 72 ≤ j) => msF_n (cnt := cnt + 1) hH h3 hj (6 - dep (hhF tx a z)) (dep (hhF tx a z)) G (by omega)
  have hmI : ∀ k w, w < 9 → mI (msF (hhF tx a z) (cnt + 1) (6 - dep (hhF tx a z)) (dep (hhF tx a z)) G) k w = mI G k w := fun k w hw => m0 _ (by omega) (by omega)
  refine ⟨⟨?_, ?_, hsp.2.1, ?_⟩, fun r hr4 => ⟨?_, hp r hr4 |>.2⟩, fun k hk => ?_, hSG, hsp.1, ⟨hsp.2.2.1, ?_, ?_⟩, ho2, hM2.2.2.1, hM2.2.2.2.1, fun k hk => ?_⟩
  · rw [m0 0 (by omega) (by omega)]; exact hG0
  · rw [m0 1 (by omega) (by omega), hG1, a1]; show _ = ((ids + 1 : Nat) : Int); omega
  · rw [m0 3 (by omega) (by omega), hGlo 3 (by omega) (by omega)]; exact a3
  · rw [m0 (4 + r) (by omega) (by omega), hGlo (4 + r) (by omega) (by omega)]; exact (hp r hr4).1
  · exact (hEG k hk).cong (fun w hw => hmI k w hw)
  · have := hsp.2.2.2
    show _ ≤ 6 * (ids + 1)
    dsimp only
    omega
  · show ids + 1 ≤ 1000; omega
  · rw [hmI k 2 (by omega), hGI k 2 (by omega)]
    split
    · exact hn k hk
    · split
      · show 0 ≤ ((z : Nat) : Int) ∧ ((z : Nat) : Int) ≤ 6; omega
      · split
        · exact hn _ (by omega)
        · exact hn k hk
theorem sim_mt {s : StV} {g : Nat → Int} {k : Nat} (h : Sim s g) (hk : k < s.2.2.2.2.1) : Sim (rmS k s) (mtR g s.2.2.2.2.1 k) := by
  have hM := sim_okM h
  obtain ⟨K, N, dep, pos, cnt, sc, mg, ids⟩ := s
  obtain ⟨⟨a0, a1, a2, a3⟩, hp, hE, hS, hT, ⟨f1, f2, f3⟩, ho, hr, hs, hn⟩ := h
  dsimp only at *
  have hc40 : cnt ≤ 40 := ho.1
  have ho2 := okS_rm (k := k) ho (by omega)
  have hM2 := okM_mt (k := k) hM a0 hc40 (by omega) (by omega)
  obtain ⟨e1, e2, e3, -⟩ := (hE k hk).key f3
  have hH : (mI g k 1).toNat < 64 := by omega
  have emk : rmS k (K, N, dep, pos, cnt, sc, mg, ids) = (shL K k (cnt - 1), shL N k (cnt - 1), (mgF (smF (shL K k (cnt - 1)) (cnt - 1) (mI g k 1).toNat) (mI g k 1).toNat (dep (mI g k 1).toNat) (dep, mg)).1, pos, cnt - 1, sc, (mgF (smF (shL K k (cnt - 1)) (cnt - 1) (mI g k 1).toNat) (mI g k 1).toNat (dep (mI g k 1).toNat) (dep, mg)).2, ids) := by
    unfold rmS rmT
    simp only [e3]
  rw [emk] at ho2 ⊢
  unfold mtR at hM2 ⊢
  have hGI := fun i w (hw : w < 9) => mtF_I g cnt k (i := i) (w := w) hw
  have hGlo := fun j (h1 : j < 72) (h0 : 0 < j) => mtF_lo g cnt k (9 * (cnt - 1)) h1 h0
  have hG0 := mtF_z g cnt k (9 * (cnt - 1))
  generalize mtF g cnt k (9 * (cnt - 1)) = G at *
  generalize (mI g k 1).toNat = H at *
  have hTG : TreeR dep G := hT.cong (fun j h1 h2 => hGlo j h2 (by omega))
  rw [← hTG.1 _ hH] at hM2 ⊢
  have hEG : ∀ i, i < cnt - 1 → EnR (mI G i) (shL K k (cnt - 1) i) (shL N k (cnt - 1) i) ids := by
    intro i hi
    rw [shL_v, shL_v]
    by_cases c : k ≤ i ∧ i < cnt - 1
    · rw [if_pos c, if_pos c]
      exact (hE (i + 1) (by omega)).cong (fun w hw => by rw [hGI i w hw, if_pos c])
    · rw [if_neg c, if_neg c]
      exact (hE i (by omega)).cong (fun w hw => by rw [hGI i w hw, if_neg c])
  have hSG : srtF (shL K k (cnt - 1)) (cnt - 1) := by
    intro i j hij hj
    rw [shL_v, shL_v]
    split <;> split <;> exact hS _ _ (by omega) (by omega)
  have hcb : ∀ i, i < cnt - 1 → 0 ≤ mI G i 1 ∧ mI G i 1 < 64 ∧ shL K k (cnt - 1) i / 1000 = (mI G i 1).toNat := fun i hi => by
    have := (hEG i hi).key f3
    exact ⟨this.1, this.2.1, this.2.2.1⟩
  have hd6 : dep H < 7 := ho.2.2.2.1 _ hH
  have hsp := merge_both (m := 1 + sc) (cnt := cnt - 1) (small := smF (shL K k (cnt - 1)) (cnt - 1) H) hH (dep H) dep mg G hd6 hTG rfl f1 (fun e he => by
    unfold smF
    rw [cb_bg hH he hSG hcb]) (by omega) (by rw [hGlo 3 (by omega) (by omega)]; exact a3)
  have m0 := fun j (h3 : j ≠ 3) (hj : j < 8 ∨ 72 ≤ j) => mgM_n (cnt := cnt - 1) hH h3 hj (dep H) G hd6
  have hmI : ∀ i w, w < 9 → mI (mgM H (cnt - 1) (dep H) G) i w = mI G i w := fun i w hw => m0 _ (by omega) (by omega)
  refine ⟨⟨?_, ?_, ?_, hsp.2.1⟩, fun r hr4 => ⟨?_, hp r hr4 |>.2⟩, fun i hi => ?_, hSG, hsp.1, ⟨hsp.2.2, f2, f3⟩, ho2, hM2.2.2.1, hM2.2.2.2.1, fun i hi => ?_⟩
  · rw [m0 0 (by omega) (by omega)]; exact hG0
  · rw [m0 1 (by omega) (by omega), hGlo 1 (by omega) (by omega)]; exact a1
  · rw [m0 2 (by omega) (by omega), hGlo 2 (by omega) (by omega)]; exact a2
  · rw [m0 (4 + r) (by omega) (by omega), hGlo (4 + r) (by omega) (by omega)]; exact (hp r hr4).1
  · exact (hEG i hi).cong (fun w hw => hmI i w hw)
  · rw [hmI i 2 (by omega), hGI i 2 (by omega)]
    split
    · exact hn _ (by omega)
    · exact hn i hi
