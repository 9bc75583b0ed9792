/-! what the Statement gives of the start: words, texts, statics, which exception is which -/
set_option maxRecDepth 100000 in
theorem zl_bad : ∀ w ∈ zBad, w ∈ lw_tbl := by decide +kernel
set_option maxRecDepth 100000 in
theorem zl_str : ∀ q ∈ zStr, Cond.stringRef RX6 q.1 q.2 ∈ lw_tbl := by decide +kernel
set_option maxRecDepth 100000 in
theorem zl_nst : ∀ w ∈ zNst, w ∈ lw_tbl := by decide +kernel
set_option maxRecDepth 100000 in
theorem zl_row : ∀ w ∈ [Cond.laysStatic Bundle.tN "UNASSIGNED_STACK" Bundle.steD, Cond.laysStatic Bundle.tN "SUPPRESSED_SENTINEL" Bundle.listD, Cond.initialized Bundle.tN, Cond.arrayOver (.object RX3), Cond.arrayClass .int, Cond.arrayClass .boolean, Cond.arrayClass .long, Cond.instantiable RX0 3, Cond.instantiable RX1 3, Cond.instantiable RX3 4, Cond.instantiable RX4 2, Cond.instantiable RX5 3, Cond.instantiable RX6 5, Cond.instantiable RX7 12], w ∈ lw_tbl := by decide +kernel
set_option maxRecDepth 100000 in
theorem zl_ex : ∀ q ∈ zStr, Cond.exactly (.string RX6 q.1) "java/lang/String" ∈ flatC (Jvm.Cond.and given_1 narrow_1) := by decide +kernel
set_option maxRecDepth 100000 in
theorem zl_nc : ∀ E ∈ zEx, ∀ E' ∈ zEx, E ≠ E' → Cond.not (.castable E E') ∈ flatC (Jvm.Cond.and given_1 narrow_1) := by decide +kernel
set_option maxRecDepth 100000 in
theorem zl_st : ∀ w ∈ [Cond.isRef (.static Bundle.tN "UNASSIGNED_STACK" Bundle.steD), Cond.isRef (.static Bundle.tN "SUPPRESSED_SENTINEL" Bundle.listD)], w ∈ flatC (Jvm.Cond.and given_1 narrow_1) := by decide +kernel
theorem zl_arr {s : State} {args : Array Value} {ty : FieldType} (h : (Cond.arrayClass ty).before args s = true) (hn : ∀ C, ty ≠ .object C) : ∃ cA, ArrOfT s cA ty ∧ va_RA s cA ty := by
  obtain ⟨cA, kA, comp, h1, h2, h3⟩ := Cond.arrayClass_spec h
  refine ⟨cA, fun n z => ⟨fun k h => (by cases h), kA, h2, comp, h3⟩, ?_⟩
  cases ty with
  | object C => exact absurd rfl (hn C)
  | _ => exact h1
theorem zl_arrO {s : State} {args : Array Value} {C : String} (h : (Cond.arrayOver (.object C)).before args s = true) : ∃ cA, ArrOfT s cA (.object C) ∧ va_RA s cA (.object C) := by
  obtain ⟨comp, cA, kA, h1, h2, h3, h4, h5⟩ := Cond.arrayOver_spec h
  exact ⟨cA, fun n z => ⟨fun k h => (by cases h), kA, h3, comp, h4⟩, kA, comp, h3, h4, h1, h5⟩
theorem zl_env {s : State} {b : Nat} (hts : ∀ w ∈ lw_tbl, w.before #[Value.ref b] s = true) (hgv : (Jvm.Cond.and given_1 narrow_1).before #[Value.ref b] s = true) : zEnv (fun q => s.heap.size ≤ q) s s.heap := by
  have hA : ∀ a : Nat, a < s.heap.size → ¬ (fun q => s.heap.size ≤ q) a := fun a h z => absurd (show s.heap.size ≤ a from z) (Nat.not_le.mpr h)
  have hr := fun w hw => hts w (zl_row w hw)
  have hf := flat_of_before _ hgv
  refine ⟨vx_Zqof (hr _ (by decide)) (hr _ (by decide)) (hf _ (zl_st _ (by decide))) hA, vx_Zqof (hr _ (by decide)) (hr _ (by decide)) (hf _ (zl_st _ (by decide))) hA, fun w hw => va_Nw.of (zBad_t w hw) (hts w (zl_bad w hw)), fun q hq => ?_, fun E hE E' hE' hne => va_Nc.of (hf _ (zl_nc E hE E' hE' hne))⟩
  obtain ⟨a, c, cell, k, h1, -⟩ := Cond.exactly_spec (hf _ (zl_ex q hq))
  exact ⟨a, vk_R.of (hts _ (zl_str q hq)) h1⟩
theorem zl_n9 {s : State} {b : Nat} (hts : ∀ w ∈ lw_tbl, w.before #[Value.ref b] s = true) : zN9 s :=
  ⟨fun w hw => va_Nw.of (zNst_t w hw) (hts w (zl_nst w hw)), va_AO.of (hts _ (zl_row _ (by decide)))⟩
theorem zl_K {s : State} {b : Nat} (hts : ∀ w ∈ lw_tbl, w.before #[Value.ref b] s = true) : ∃ (D : va_G) (ct : zCT), va_K D vwCl (zT ct) s := by
  have hr := fun w hw => hts w (zl_row w hw)
  obtain ⟨c0, i0, k0⟩ := u_known (C := RX0) (T := TX0) (N := 3) (n := 3) hts inX0 (hr _ (by decide))
  obtain ⟨c1, i1, k1⟩ := u_known (C := RX1) (T := TX1) (N := 3) (n := 3) hts inX1 (hr _ (by decide))
  obtain ⟨c2, i2, k2⟩ := u_known (C := RX3) (T := TX3) (N := 4) (n := 4) hts inX3 (hr _ (by decide))
  obtain ⟨c3, i3, k3⟩ := u_known (C := RX4) (T := TX4) (N := 2) (n := 2) hts inX4 (hr _ (by decide))
  obtain ⟨c4, i4, k4⟩ := u_known (C := RX5) (T := TX5) (N := 3) (n := 3) hts inX5 (hr _ (by decide))
  obtain ⟨c5, i5, k5⟩ := u_known (C := RX6) (T := TX6) (N := 5) (n := 5) hts inX6 (hr _ (by decide))
  obtain ⟨c6, i6, k6⟩ := u_known (C := RX7) (T := TX7) (N := 12) (n := 12) hts inX7 (hr _ (by decide))
  obtain ⟨a0, r0⟩ := zl_arr (ty := .int) (hr _ (by decide)) (fun C h => by cases h)
  obtain ⟨a1, r1⟩ := zl_arr (ty := .boolean) (hr _ (by decide)) (fun C h => by cases h)
  obtain ⟨a2, r2⟩ := zl_arrO (C := RX3) (hr _ (by decide))
  obtain ⟨a3, r3⟩ := zl_arr (ty := .long) (hr _ (by decide)) (fun C h => by cases h)
  refine ⟨(fun k => match k with | 0 => c0 | 1 => c1 | 2 => c2 | 3 => c3 | 4 => c4 | 5 => c5 | _ => c6, fun k => match k with | 0 => i0 | 1 => i1 | 2 => i2 | 3 => i3 | 4 => i4 | 5 => i5 | _ => i6), (a0, a1, a2, a3), fun k q hq => ?_, fun k q hq => ?_⟩
  · match k, hq with
    | 0, hq => cases hq; exact k0
    | 1, hq => cases hq; exact k1
    | 2, hq => cases hq; exact k2
    | 3, hq => cases hq; exact k3
    | 4, hq => cases hq; exact k4
    | 5, hq => cases hq; exact k5
    | 6, hq => cases hq; exact k6
    | k + 7, hq => simp [vwCl] at hq
  · match k, hq with
    | 0, hq => cases hq; exact r0
    | 1, hq => cases hq; exact r1
    | 2, hq => cases hq; exact r2
    | 3, hq => cases hq; exact r3
    | k + 4, hq => simp [zT] at hq
