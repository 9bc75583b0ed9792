/-! a whole row of ints copied over another of the same length -/
theorem zP_put {D : va_G} {cl : List vw_C} {ws : va_W} {q1 : Nat} {a : Nat} {e e' e0 : va_E} {H : Heap} (h0 : ws[q1]? = some (a, e0)) (he : va_at D cl (a, e) H → va_at D cl (a, e') H) (h : va_P D cl (ws.set q1 (a, e)) H) : va_P D cl (ws.set q1 (a, e')) H := by
  have hl := (List.getElem?_eq_some_iff.mp h0).1
  intro k q hk
  by_cases hkq : k = q1
  · subst hkq
    have h1 : (ws.set k (a, e'))[k]? = some (a, e') := List.getElem?_set_self hl
    rw [h1] at hk
    cases hk
    exact he (h k (a, e) (List.getElem?_set_self hl))
  · refine h k q ?_
    rw [List.getElem?_set_ne (fun z => hkq z.symm)] at hk ⊢
    exact hk
theorem z_cell {c : ClassId} {n : Nat} {f g : Nat → Int32} (h : ∀ j, j < n → f j = g j) : vp_cell c (n, .inl f) = vp_cell c (n, .inl g) := by
  rw [vp_cell_i, vp_cell_i]
  unfold arrV
  have : (Array.ofFn (n := n) fun j => Value.int (f j.val)) = (Array.ofFn (n := n) fun j => Value.int (g j.val)) := by
    congr 1
    funext j
    rw [h j.val j.isLt]
  rw [this]
section ZCOPY
variable {p : Program} {l : Launch} {e : Env} {R : Room} {s : State} {m : MethodId} {args : Array Value} {below : List Frame} {meth : Method} {c : Code} {D : va_G} {A : Nat → Prop} {nL : Nat} {Q : State → Prop} {cells slots : Nat} {ws : va_W} {lv : List (Nat × Value)} {pc : Nat} {st : List Value} {cc : ByteArray} {own : String} {Ts : List Cond} {ct : zCT}
theorem z_copy {a a0 n ix : Nat} {f g : Nat → Int} (Z : zC p s m args c cc own Ts nL D ct A) (hdg : decode cc pc = .ok (.invokestatic ix, 3)) (hlink : Cond.methodLink own ix arraycopyName ∈ Ts) (hnat : Cond.native arraycopyName ∈ Ts) (hstat : Cond.static arraycopyName ∈ Ts) (hini : Cond.initialized "java/lang/System" ∈ Ts)
    (q0 q1 : Nat) (ws' : va_W) (ha0 : ws[q0]? = some (zAI ct a0 n f)) (ha1 : ws[q1]? = some (zAI ct a n g)) (hn : n < 2147483648) (hfr : 1 ≤ R.frames) (hlo : (st.map fun v => v.category).sum + 18 ≤ R.locals) {k : Int} (hk : k = (n : Int)) (hw : ws.set q1 (zAI ct a n f) = ws')
    (kk : zW p l e R s m args below meth c D A nL Q cells slots ws' lv (pc + 3) st) : zW p l e R s m args below meth c D A nL Q cells slots ws lv pc (zi k :: zi 0 :: .ref a :: zi 0 :: .ref a0 :: st) := by
  intro H locs ls hP hD hS hl
  subst hk
  have h0 : (zI 0).toNatClampNeg = 0 := zI_cl (k := 0) rfl (by decide)
  have hN : (zI ((n : Nat) : Int)).toNatClampNeg = n := zI_cl rfl hn
  have hneg : ¬ (zI ((n : Nat) : Int)) < 0 := by
    rw [← zI_0, zI_lt ⟨by omega, by omega⟩ ⟨by omega, by omega⟩]; omega
  refine va_copyi Z.1.1 Z.1.2.1 (Z.1.2.2.1.trans hl.1.symm) Z.1.2.2.2.1 (Z.1.2.2.2.2 _ hlink) (Z.1.2.2.2.2 _ hnat) (Z.1.2.2.2.2 _ hstat) (Z.1.2.2.2.2 _ hini) Z.2.1 hP hD hS q0 q1 0 0 (ty := .int) ha0 ha1 rfl rfl rfl (by decide) (by decide) hneg (by rw [h0, hN]; omega) (by rw [h0, hN]; omega) (fun i _ => rfl) hfr (Nat.le_trans (by show _ + (7 + 11) ≤ _; omega) hlo) hdg ?_
  intro H1 locs1 hP1 hD1 hS1
  rw [h0, hN] at hP1 hD1
  subst hw
  refine kk H1 locs1 ls (zP_put ha1 (fun h => ?_) hP1) (hD.set ha1) hS1 hl
  show H1[a]? = some (vp_cell ct.1 (n, .inl (zF f)))
  rw [← z_cell (f := va_cpy (zF f) (zF g) 0 0 n) (g := zF f) (fun j hj => by unfold va_cpy; rw [if_pos ⟨Nat.zero_le _, by omega⟩]; congr 1; omega)]
  exact h
end ZCOPY
