/-! what the Statement gives of the start -/
set_option maxRecDepth 100000 in
theorem zl_nst : ∀ w ∈ zNst, w ∈ lw_tbl := by decide +kernel
set_option maxRecDepth 100000 in
theorem zl_row : ∀ w ∈ [Cond.arrayOver (.object RX3), Cond.arrayClass .int, Cond.arrayClass .boolean, Cond.instantiable RX0 3, Cond.instantiable RX1 3, Cond.instantiable RX3 4, Cond.instantiable RX4 2, Cond.instantiable RX5 3, Cond.instantiable RX6 5], w ∈ lw_tbl := by decide +kernel
theorem zl_arr {s : State} {args : Array Value} {ty : FieldType} (h : (Cond.arrayClass ty).before args s = true) (hn : ∀ C, ty ≠ .object C) : ∃ cA, ArrOfT s cA ty ∧ va_RA s cA ty := by
  obtain ⟨cA, kA, comp, h1, h2, h3⟩ := Cond.arrayClass_spec h
  refine ⟨cA, fun n z => ⟨fun k h => (by cases h), kA, h2, comp, h3⟩, ?_⟩
  cases ty with
  | object C => exact absurd rfl (hn C)
  | _ => exact h1
theorem zl_arrO {s : State} {args : Array Value} {C : String} (h : (Cond.arrayOver (.object C)).before args s = true) : ∃ cA, ArrOfT s cA (.object C) ∧ va_RA s cA (.object C) := by
  obtain ⟨comp, cA, kA, h1, h2, h3, h4, h5⟩ := Cond.arrayOver_spec h
  exact ⟨cA, fun n z => ⟨fun k h => (by cases h), kA, h3, comp, h4⟩, kA, comp, h3, h4, h1, h5⟩
theorem zl_n9 {s : State} {b : Nat} (hts : ∀ w ∈ lw_tbl, w.before #[Value.ref b] s = true) : zN9 s :=
  ⟨fun w hw => va_Nw.of (zNst_t w hw) (hts w (zl_nst w hw)), va_AO.of (hts _ (zl_row _ (by decide)))⟩
theorem zl_K {s : State} {b : Nat} (hts : ∀ w ∈ lw_tbl, w.before #[Value.ref b] s = true) : ∃ (D : va_G) (ct : zCT), va_K D vwCl (zT ct) s := by
  have hr := fun w hw => hts w (zl_row w hw)
  obtain ⟨c0, i0, k0⟩ := u_known (C := RX0) (T := TX0) (N := 3) (n := 3) hts inX0 (hr _ (by decide))
  obtain ⟨c1, i1, k1⟩ := u_known (C := RX1) (T := TX1) (N := 3) (n := 3) hts inX1 (hr _ (by decide))
  obtain ⟨c2, i2, k2⟩ := u_known (C := RX3) (T := TX3) (N := 4) (n := 4) hts inX3 (hr _ (by decide))
  obtain ⟨c3, i3, k3⟩ := u_known (C := RX4) (T := TX4) (N := 2) (n := 2) hts inX4 (hr _ (by decide))
  obtain ⟨c4, i4, k4⟩ := u_known (C := RX5) (T := TX5) (N := 3) (n := 3) hts inX5 (hr _ (by decide))
  obtain ⟨c5, i5, k5⟩ := u_known (C := RX6) (T := TX6) (N := 5) (n := 5) hts inX6 (hr _ (by decide))
  obtain ⟨a0, r0⟩ := zl_arr (ty := .int) (hr _ (by decide)) (fun C h => by cases h)
  obtain ⟨a1, r1⟩ := zl_arr (ty := .boolean) (hr _ (by decide)) (fun C h => by cases h)
  obtain ⟨a2, r2⟩ := zl_arrO (C := RX3) (hr _ (by decide))
  refine ⟨(fun k => match k with | 0 => c0 | 1 => c1 | 2 => c2 | 3 => c3 | 4 => c4 | _ => c5, fun k => match k with | 0 => i0 | 1 => i1 | 2 => i2 | 3 => i3 | 4 => i4 | _ => i5), (a0, a1, a2), fun k q hq => ?_, fun k q hq => ?_⟩
  · match k, hq with
    | 0, hq => cases hq; exact k0
    | 1, hq => cases hq; exact k1
    | 2, hq => cases hq; exact k2
    | 3, hq => cases hq; exact k3
    | 4, hq => cases hq; exact k4
    | 5, hq => cases hq; exact k5
    | k + 6, hq => simp [vwCl] at hq
  · match k, hq with
    | 0, hq => cases hq; exact r0
    | 1, hq => cases hq; exact r1
    | 2, hq => cases hq; exact r2
    | k + 3, hq => simp [zT] at hq
