/-! methods with a table of their own that call what may throw -/
def zMetE {S : Type} (l : Launch) (y : MethodName) (wsC : List Cond) (rm : Room) (D : va_G) (ct : zCT) (As : List Value) (ws : va_W) (post : S → Prop) (res : S → Option Value) (ws' : S → va_W) (mc ms : Nat) : Prop :=
  ∀ sz : Nat, Met l y wsC rm (zPcX D ct As ws sz) (zQ D ct ws post res ws' sz) mc ms (va_A ws sz)
theorem zMetE_i {l : Launch} {y : MethodName} {wsC wsC' : List Cond} {rm : Room} {D : va_G} {ct : zCT} {As : List Value} {ws : va_W} {S : Type} {post : S → Prop} {ws' : S → va_W} {mc ms : Nat} {cc : ByteArray} {maxL : Nat} {hh : List (Nat × Nat × Nat × Nat)} {r : S → Int} (hy : plainName y.cls = true) (hw : wsC = Cond.codeWith y cc maxL (some .int) hh :: wsC') (hA : (lg_sl As).length ≤ maxL)
    (body : ∀ (p : Program) (e : Env) (s : State) (m : MethodId) (below : List Frame) (meth : Method) (c : Code) (A : Nat → Prop) (Q : State → Prop), zC p s m As.toArray c cc y.cls wsC maxL D ct A → zEnv A s s.heap → c.exceptionTable.toList = tableOf hh →
      (∀ (lv : List (Nat × Value)) (pc : Nat) (u : S), post u → decode cc pc = .ok (.ireturn, 1) → zW p l e rm s m As.toArray below meth c D A maxL Q mc ms (ws' u) lv pc [zi (r u)]) →
      zW p l e rm s m As.toArray below meth c D A maxL Q 0 0 ws (lv_args 0 As) 0 []) : zMetE l y wsC rm D ct As ws post (fun u => some (zi (r u))) ws' mc ms := by
  intro sz
  refine va_MetW (cc := cc) (maxL := maxL) (ret := some .int) (hh := hh) hy hw ?_
  intro p e s m args below meth c s₁ B hml hv
  obtain ⟨rfl, ⟨hsz, hP, hK, hD0⟩, hE⟩ := hv
  have hx := B.exec
  have hb := B.bytes
  have hr := B.returns
  have hts := atoms_spec (ws := wsC) B.pre
  have hown : s.vm.findClass y.cls = some m.cls := findClass_of_methodNamed B.named
  have htb : c.exceptionTable.toList = tableOf hh := vx_table (x := y) B (hts _ (by rw [hw]; exact List.mem_cons_self))
  have hlocks := B.notSynchronized
  subst hsz
  have hD := hD0.self (sz := s.heap.size)
  rw [lg_entry_eq]
  have hl := lv_entry As (n := maxL) hA
  refine body p e s m below meth c (va_A ws s.heap.size) _ ⟨⟨hx, hb, hml, hown, hts⟩, hK, fun q h => Or.inr h⟩ hE htb ?_ s.heap [] _ hP hD va_S.rf hl
  intro lv pc u hu hdg H locs ls hP1 hD1 hS1 hl1
  exact W.iret (v := zI (r u)) hx hb hr (fun t ht hW => ⟨⟨u, rfl, hu, by rw [ht]; exact hP1, hD1⟩, hS1.F ht⟩) hS1.2.2 hdg
section ZE
variable {p : Program} {l : Launch} {e : Env} {R : Room} {s : State} {m : MethodId} {args : Array Value} {below : List Frame} {meth : Method} {c : Code} {D : va_G} {A : Nat → Prop} {nL : Nat} {Q : State → Prop} {cells slots : Nat} {ws : va_W} {lv : List (Nat × Value)} {pc : Nat} {st : List Value} {cc : ByteArray} {own : String} {Ts : List Cond} {ct : zCT} {E : String}
variable {y : MethodName} {wsC : List Cond} {rm : Room} {As : List Value} {wc wr : va_W} {mc9 ms9 n ix maxL : Nat} {bytes : ByteArray} {ret : Option FieldType} {rest : List Value} {b : Nat}
theorem z_last {a n k : Nat} {f : Nat → Int64} {i : Int} {v : Int64} (Z : zC p s m args c cc own Ts nL D ct A) (hdg : decode cc pc = .ok (.lastore, 1)) (q0 : Nat) (ws' : va_W) (ha : ws[q0]? = some (zAJ ct a n f)) (hk : i = (k : Int)) (hn : k < n ∧ n < 2147483648) (hw : ws.set q0 (zAJ ct a n (zU f k v)) = ws')
    (kk : zW p l e R s m args below meth c D A nL Q cells slots ws' lv (pc + 1) st) : zW p l e R s m args below meth c D A nL Q cells slots ws lv pc (.long v :: zi i :: .ref a :: st) :=
  fun H locs ls hP hD hS hl => va_last Z.1.1 Z.1.2.1 Z.2.1 hP hD hS q0 3 ha rfl (zI_in hk hn.1 hn.2) hdg (fun H1 locs1 hP1 hD1 hS1 => by
    rw [zI_cl hk (Nat.lt_trans hn.1 hn.2)] at hP1 hD1
    subst hw
    exact kk H1 locs1 ls hP1 hD1 hS1 hl)
theorem z_lald {a n k : Nat} {f : Nat → Int64} {i : Int} (Z : zC p s m args c cc own Ts nL D ct A) (hdg : decode cc pc = .ok (.laload, 1)) (q0 : Nat) (ha : ws[q0]? = some (zAJ ct a n f)) (hk : i = (k : Int)) (hn : k < n ∧ n < 2147483648)
    (kk : zW p l e R s m args below meth c D A nL Q cells slots ws lv (pc + 1) (.long (f k) :: st)) : zW p l e R s m args below meth c D A nL Q cells slots ws lv pc (zi i :: .ref a :: st) :=
  fun H locs ls hP hD hS hl => va_lald Z.1.1 Z.1.2.1 Z.2.1 hP q0 3 ha rfl (zI_in hk hn.1 hn.2) hdg (by rw [zI_cl hk (Nat.lt_trans hn.1 hn.2)]; exact kk H locs ls hP hD hS hl)
/-- a call that throws E, caught in this method -/
theorem z_callVC (Z : zC p s m args c cc own Ts nL D ct A) (hE : zEnv A s s.heap) {hh : List (Nat × Nat × Nat × Nat)} (htb : c.exceptionTable.toList = tableOf hh) (hEx : E ∈ zEx) (pre : List ExceptionTableEntry) (x : ExceptionTableEntry) (suf : List ExceptionTableEntry) (hsp : tableOf hh = pre ++ x :: suf) (hpre : ∀ z ∈ pre, z.catchType ≠ 0 ∧ ∃ nm ∈ zEx, E ≠ nm ∧ Cond.classLink own z.catchType nm ∈ Ts) (hcov : covers x pc = true) (hx0 : x.catchType ≠ 0) (hxl : Cond.classLink own x.catchType E ∈ Ts)
    (hdg : decode cc pc = .ok (.invokevirtual ix, 3)) {C9 : String} (ci q0 : Nat) (fs : List Value) (q : vw_C) (hc : vwCl[ci]? = some q) (hq : q.1 = C9) (he : ws[q0]? = some (zO b ci fs)) (hM : zMetX l y wsC rm D ct (.ref b :: As) wc E mc9 ms9) (cw : CallW R s args own C9 ix y bytes maxL ret wsC rm mc9 ms9 n) (hn : As.length = n) (hrest : (rest.map fun v => v.category).sum ≤ 8) (hf : cells + mc9 ≤ R.cells ∧ slots + ms9 ≤ R.slots) (hp : ws.Perm (wc ++ wr)) (hst : st = As.reverse ++ .ref b :: rest)
    (kk : ∀ q9 : Nat, zW p l e R s m args below meth c D A nL Q (cells + mc9) (slots + ms9) ws lv x.handlerPc [.ref q9]) : zW p l e R s m args below meth c D A nL Q cells slots ws lv pc st := by
  intro H locs ls hP hD hS hl
  subst hst
  have hr := vx_runV (locs := locs) (cells := cells) (slots := slots) (meth := meth) (below := below) (e := e) (rest := rest) (g := F0 m pc ls (As.reverse ++ .ref b :: rest)) Z.1 (hM H.size) cw ⟨zPcX_blind, (by rw [← hq]; exact va_recv Z.2.1 hP hc he), z_preX Z hE hp hP hD hS⟩ rfl hn hl.1 rfl (lv_room hrest) hdg hf
  intro T hT X
  rcases hr T hT X with ⟨v, st₀, t, T', L, h0, X', hL, e1, e2, hfa, st⟩ | ⟨q8, st₀, t, T', L, E9, ce, h0, X', hL, e1, e2, ⟨rfl, hP1, hF1⟩, hce, hcv, hcl, st⟩
  · exact hfa.elim
  · have hP2 := zP_perm hp hP
    have hD2 := zD_perm hp hD
    obtain ⟨hz, hk⟩ := hF1
    rw [h0] at hz hk
    have hF : ∀ q, va_A wc H.size q → A q := by
      intro q hq
      rcases hq with ⟨k, e9, h⟩ | h
      · exact (zD_l hD2).2 k (q, e9) h
      · exact Z.2.2 q (Nat.le_trans hS.1 h)
    have hRk : ∀ (k : Nat) (q : Nat × va_E), wr[k]? = some q → q.1 < H.size ∧ ¬ va_A wc H.size q.1 := by
      intro k q hq
      have hlt := (zP_r hP2 k q hq).lt
      refine ⟨hlt, fun h => ?_⟩
      rcases h with ⟨k2, e9, h⟩ | h
      · exact zD_x hD2 (q.1, e9) (List.mem_of_getElem? h) q (List.mem_of_getElem? hq) rfl
      · omega
    have hP3 : va_P D vwCl ws T'.heap := by
      refine zP_perm hp.symm ?_
      rw [e1]
      exact va_P.app hP1 (fun k q hq => ((zP_r hP2) k q hq).kept (hk q.1 (hRk k q hq).1 (hRk k q hq).2))
    have hS3 : va_S A s.heap T'.heap (locs ++ L) := ⟨Nat.le_trans hS.1 (by rw [e1]; exact hz), fun q h1 h2 => by rw [e1, hk q (Nat.lt_of_lt_of_le h1 hS.1) (fun z => h2 (hF q z))]; exact hS.2.1 q h1 h2, fun q hq => by
      rcases List.mem_append.mp hq with h | h
      · exact hS.2.2 q h
      · exact hF _ (hL q h)⟩
    obtain ⟨-, -, hC, -, hNc⟩ := hE
    have key : vx_W p l e R s m args below meth c T'.heap (locs ++ L) (cells + mc9) (slots + ms9) Q (F0 m pc ls rest) q8 :=
      vx_catch Z.1.2.2.2.1 pre x suf (htb.trans hsp) (fun z hz => by
        obtain ⟨h1, nm, h2, h3, h4⟩ := hpre z hz
        exact Or.inr ⟨h1, nm, Z.1.2.2.2.2 _ h4, hNc _ hEx nm h2 h3⟩) hcov hx0 (Z.1.2.2.2.2 _ hxl) (va_Nw.use rfl (hC _ (List.mem_append_left _ (List.mem_map_of_mem hEx)))) (by rw [e1]; exact hce) hcv hcl (kk q8 T'.heap (locs ++ L) ls hP3 hD hS3 hl)
    obtain ⟨t2, a1, b1⟩ := key T' rfl X'
    exact ⟨t2, st.trans a1, b1⟩
theorem z_callSWu {res : Unit → Option Value} {ws' : Unit → va_W} {hh : List (Nat × Nat × Nat × Nat)} (Z : zC p s m args c cc own Ts nL D ct A) (hE : zEnv A s s.heap) (hdg : decode cc pc = .ok (.invokestatic ix, 3)) (hM : zMetE l y wsC rm D ct As wc (fun _ : Unit => True) res ws' mc9 ms9) (cw : vx_CSW R s args own ix y bytes maxL ret hh wsC rm mc9 ms9 n) (hn : As.length = n) (hrest : (rest.map fun v => v.category).sum ≤ 8) (hf : cells + mc9 ≤ R.cells ∧ slots + ms9 ≤ R.slots)
    (wn : va_W) (st1 : List Value) (hp : ws.Perm (wc ++ wr)) (hpn : (ws' () ++ wr).Perm wn) (hst : st = As.reverse ++ rest) (hst1 : (res ()).toList ++ rest = st1)
    (kk : zW p l e R s m args below meth c D A nL Q (cells + mc9) (slots + ms9) wn lv (pc + 3) st1) : zW p l e R s m args below meth c D A nL Q cells slots ws lv pc st := by
  intro H locs ls hP hD hS hl
  subst hst
  exact z_ran Z.2.2 hp hP hD hS (vx_runSW (rest := rest) Z.1 (hM H.size) cw ⟨zPcX_blind, z_preX Z hE hp hP hD hS⟩ rfl hn hl.1 rfl (lv_room hrest) hdg hf) hl (fun _ _ => zW_perm wn hpn (by rw [hst1]; exact kk))
end ZE
