/-! the script's cells: the law's cell, by a contract of its own -/
def ceV (L : Nat) (xs : Nat → Int32) (k : Nat) : Int32 := if k < L then xs k else zI (1812433253 * (((k : Nat) : Int) + 241))
def zPcC (D : va_G) (ct : zCT) (b L : Nat) (xs : Nat → Int32) (k sz : Nat) : Array Value → State → Prop := va_Pc [.ref b, zi ((k : Nat) : Int)] (fun U => (U.heap.size = sz ∧ va_K D vwCl (zT ct) U) ∧ va_X b L xs U U.heap ∧ b < U.heap.size)
theorem zPcC_blind {D : va_G} {ct : zCT} {b L : Nat} {xs : Nat → Int32} {k sz : Nat} : FrameBlind (zPcC D ct b L xs k sz) := by
  intro a U g mk q
  obtain ⟨q0, ⟨q1, qK⟩, qX, qb⟩ := q
  exact ⟨q0, ⟨q1, va_K.moved (u := U) (U := U.calling g mk a) (Vm.Alike.refl U.vm) qK⟩, va_X.moved (u := U) (U := U.calling g mk a) (Vm.Alike.refl U.vm) qX, qb⟩
def zMetC (l : Launch) (y : MethodName) (wsC : List Cond) (rm : Room) (D : va_G) (ct : zCT) (b L : Nat) (xs : Nat → Int32) (k : Nat) : Prop :=
  ∀ sz : Nat, Met l y wsC rm (zPcC D ct b L xs k sz) (zQ D ct [] (fun _ : Unit => True) (fun _ => some (.int (ceV L xs k))) (fun _ => []) sz) 0 0 (va_A [] sz)
section ZCELL
variable {p : Program} {l : Launch} {e : Env} {R : Room} {s : State} {m : MethodId} {args : Array Value} {below : List Frame} {meth : Method} {c : Code} {D : va_G} {A : Nat → Prop} {nL : Nat} {Q : State → Prop} {cells slots : Nat} {ws : va_W} {lv : List (Nat × Value)} {pc : Nat} {st : List Value} {cc : ByteArray} {own : String} {Ts : List Cond} {ct : zCT}
theorem z_sldX {b L k : Nat} {xs : Nat → Int32} {i : Int} (Z : zC p s m args c cc own Ts nL D ct A) (hdg : decode cc pc = .ok (.iaload, 1)) (hX : va_X b L xs s s.heap) (hbl : b < s.heap.size) (hbA : ¬ A b) (hk : i = (k : Int)) (hn : k < L ∧ L < 2147483648)
    (kk : zW p l e R s m args below meth c D A nL Q cells slots ws lv (pc + 1) (.int (xs k) :: st)) : zW p l e R s m args below meth c D A nL Q cells slots ws lv pc (zi i :: .ref b :: st) :=
  fun H locs ls hP hD hS hl => va_sld Z.1.1 Z.1.2.1 hX hbl hbA hS (zI_in hk hn.1 hn.2) hdg (by rw [zI_cl hk (Nat.lt_trans hn.1 hn.2)]; exact kk H locs ls hP hD hS hl)
theorem z_slen {b L : Nat} {xs : Nat → Int32} (Z : zC p s m args c cc own Ts nL D ct A) (hdg : decode cc pc = .ok (.arraylength, 1)) (hX : va_X b L xs s s.heap) (hbl : b < s.heap.size) (hbA : ¬ A b)
    (kk : zW p l e R s m args below meth c D A nL Q cells slots ws lv (pc + 1) (zi (L : Int) :: st)) : zW p l e R s m args below meth c D A nL Q cells slots ws lv pc (.ref b :: st) :=
  fun H locs ls hP hD hS hl => va_slen Z.1.1 Z.1.2.1 hX hbl hbA hS hdg (by rw [zI_nat]; exact kk H locs ls hP hD hS hl)
theorem z_callC {b L k n ix maxL : Nat} {xs : Nat → Int32} {y : MethodName} {wsC : List Cond} {rm : Room} {bytes : ByteArray} {ret : Option FieldType} {rest : List Value} (Z : zC p s m args c cc own Ts nL D ct A) (hdg : decode cc pc = .ok (.invokestatic ix, 3)) (hX : va_X b L xs s s.heap) (hbl : b < s.heap.size) (hbA : ¬ A b) (hM : zMetC l y wsC rm D ct b L xs k) (cw : CallB R s args own ix y bytes maxL ret wsC rm 0 0 n ∧ (Cond.static y).before args s = true) (hn : 2 = n) (hrest : (rest.map fun v => v.category).sum ≤ 8) (hf : cells + 0 ≤ R.cells ∧ slots + 0 ≤ R.slots)
    (kk : zW p l e R s m args below meth c D A nL Q (cells + 0) (slots + 0) ws lv (pc + 3) (.int (ceV L xs k) :: rest)) : zW p l e R s m args below meth c D A nL Q cells slots ws lv pc (zi ((k : Nat) : Int) :: .ref b :: rest) := by
  intro H locs ls hP hD hS hl
  have hq : H[b]? = s.heap[b]? := hS.2.1 b hbl hbA
  have hpre : ∀ U : State, U.heap = H → s.WarmedH U.vm → zPcC D ct b L xs k H.size ([.ref b, zi ((k : Nat) : Int)] : List Value).toArray U := fun U hU hW =>
    ⟨rfl, ⟨by rw [hU], va_K.moved hW.alike Z.2.1⟩, by rw [hU]; exact (hX.kept hq).moved hW.alike, by rw [hU]; exact Nat.lt_of_lt_of_le hbl hS.1⟩
  exact z_ran (wc := []) (wr := ws) Z.2.2 (List.Perm.refl _) hP hD hS (va_runS (As := [.ref b, zi ((k : Nat) : Int)]) (rest := rest) Z.1 (hM H.size) cw ⟨zPcC_blind, hpre⟩ rfl hn hl.1 rfl (lv_room hrest) hdg hf) hl (fun _ _ => kk)
end ZCELL
theorem zlk_L_cell_7 : Cond.constant RL 7 (zI 1812433253) ∈ wsL_cell := by decide +kernel
set_option maxHeartbeats 4000000 in
theorem zc_L_cell (l : Launch) (D : va_G) (ct : zCT) (b L : Nat) (xs : Nat → Int32) (k : Nat) (hL : L ≤ 260) (hk9 : k < 1000) : zMetC l yL_cell wsL_cell ({ frames := 0, cells := 0, slots := 0, locals := 0 } : Room) D ct b L xs k := by
  intro sz
  refine Met.ofW (cc := cL_cell) (maxL := 2) (ret := (some .int)) (by decide) rfl ?_
  intro p e s m args below meth c s₁ B hml hv
  obtain ⟨rfl, ⟨hsz, hK⟩, hX, hbl⟩ := hv
  have hx := B.exec
  have hb := B.bytes
  have hr := B.returns
  have hts := atoms_spec (ws := wsL_cell) B.pre
  have hown : s.vm.findClass yL_cell.cls = some m.cls := findClass_of_methodNamed B.named
  have hlocks := B.notSynchronized
  subst hsz
  have hbA : ¬ va_A [] s.heap.size b := by
    intro h
    rcases h with ⟨j, e9, h9⟩ | h9
    · simp at h9
    · exact absurd hbl (Nat.not_lt.mpr h9)
  have Z : zC p s m ([.ref b, zi ((k : Nat) : Int)] : List Value).toArray c cL_cell RL wsL_cell 2 D ct (va_A [] s.heap.size) := ⟨⟨hx, hb, hml, hown, hts⟩, hK, fun q h => Or.inr h⟩
  rw [lg_entry_eq]
  have hl := lv_entry ([.ref b, zi ((k : Nat) : Int)]) (n := 2) (Nat.le_of_ble_eq_true rfl)
  have hP : va_P D vwCl [] s.heap := fun k q h => by simp at h
  have hD : va_D (va_A [] s.heap.size) [] := ⟨fun i j p q h => by simp at h, fun k q h => by simp at h⟩
  refine (show zW p l e ({ frames := 0, cells := 0, slots := 0, locals := 0 } : Room) s m ([.ref b, zi ((k : Nat) : Int)] : List Value).toArray below meth c D (va_A [] s.heap.size) 2 _ 0 0 [] (lv_args 0 [.ref b, zi ((k : Nat) : Int)]) 0 [] from ?_) s.heap [] _ hP hD va_S.rf hl
  have hR : ∀ (lv : List (Nat × Value)) (pc : Nat), decode cL_cell pc = .ok (.ireturn, 1) → zW p l e ({ frames := 0, cells := 0, slots := 0, locals := 0 } : Room) s m ([.ref b, zi ((k : Nat) : Int)] : List Value).toArray below meth c D (va_A [] s.heap.size) 2 (MQ below (zQ D ct [] (fun _ : Unit => True) (fun _ => some (.int (ceV L xs k))) (fun _ => []) s.heap.size) ([.ref b, zi ((k : Nat) : Int)] : List Value).toArray s 0 0 (va_A [] s.heap.size)) 0 0 [] lv pc [.int (ceV L xs k)] := by
    intro lv pc hdg H locs ls hP1 hD1 hS1 hl1
    exact W.iret (v := ceV L xs k) hx hb hr (fun t ht hW => ⟨⟨(), rfl, trivial, by rw [ht]; exact hP1, hD1⟩, hS1.F ht⟩) hS1.2.2 hdg
  refine z_eqs _ [(0, .ref b), (1, zi ((k : Nat) : Int))] _ rfl rfl rfl ?_
  refine z_iload_n Z dL_cell_0 1 rfl ?_
  refine z_aload_n Z dL_cell_1 0 rfl ?_
  refine z_slen Z dL_cell_2 hX hbl hbA ?_
  refine z_icmp_ge Z 12 dL_cell_3 (by decide) (by omega) (by omega) (fun h3 => ?_) (fun h3 => ?_)
  · refine z_ldc (v := 1812433253) Z dL_cell_12 zlk_L_cell_7 ?_
    refine z_iload_n Z dL_cell_14 1 rfl ?_
    refine z_sipush (v := 241) Z dL_cell_15 (by decide +kernel) ?_
    refine z_iadd Z dL_cell_18 ?_
    refine z_imul Z dL_cell_19 ?_
    refine z_eqs [] _ [.int (ceV L xs k)] rfl rfl (by unfold ceV; rw [if_neg (by omega)]) ?_
    exact hR _ _ dL_cell_20
  · refine z_aload_n Z dL_cell_6 0 rfl ?_
    refine z_iload_n Z dL_cell_7 1 rfl ?_
    refine z_sldX (k := k) Z dL_cell_8 hX hbl hbA rfl (by omega) ?_
    refine z_goto Z 20 dL_cell_9 (by decide) ?_
    refine z_eqs [] _ [.int (ceV L xs k)] rfl rfl (by unfold ceV; rw [if_pos (by omega)]) ?_
    exact hR _ _ dL_cell_20
