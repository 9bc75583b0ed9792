/-! methods that throw, over the layer zW: the world stays as it was -/
def zEx : List String := ["java/lang/IllegalArgumentException", "java/lang/IllegalStateException", "java/lang/IndexOutOfBoundsException"]
def zStr : List (Nat × String) := [(112, "a position is START or from 0 to 63999"), (115, "a character code is from 32 to 126"), (120, "the text is full"), (128, "the text is not valid commands"), (138, "there is no saved state"), (149, "the slot is empty"), (153, "an index is not negative"), (208, "the text is not a name"), (213, "there is no entry with this id"), (218, "the name is taken or the directory is full"), (220, "the reader is closed"), (222, "there is no such reader"), (224, "there is no such slot"), (226, "there is no such hash"), (79, "the name is taken or no id is left")]
def zDecl : List String := ["java/lang/RuntimeException", "java/lang/Exception", "java/lang/Throwable"]
def zBad : List Cond := zEx.map (fun E => .castable E E) ++ zDecl.map (fun E => .declares ⟨E, "<init>", "(Ljava/lang/String;)V"⟩)
/-- what stands besides the world: the statics of Throwable, the texts, which exception is which -/
def zEnv (A : Nat → Prop) (U : State) (H : Heap) : Prop :=
  vx_Zq Bundle.tN "UNASSIGNED_STACK" Bundle.steD A U H ∧ vx_Zq Bundle.tN "SUPPRESSED_SENTINEL" Bundle.listD A U H ∧ (∀ w ∈ zBad, va_Nw w U) ∧ (∀ q ∈ zStr, ∃ sa, vk_R RX6 q.1 q.2 sa U) ∧ ∀ E ∈ zEx, ∀ E' ∈ zEx, E ≠ E' → va_Nc E E' U
theorem zBad_t : ∀ w ∈ zBad, w.onTables = true := by decide +kernel
theorem zEnv.to {A B : Nat → Prop} {s U : State} {H : Heap} {locs : List Loc} (h : zEnv A s s.heap) (hS : va_S A s.heap H locs) (hW : s.WarmedH U.vm) (hF : ∀ q, B q → A q) : zEnv B U H := by
  obtain ⟨h1, h2, h3, h4, h5⟩ := h
  refine ⟨((h1.kept hS.2.1).narrow hF).moved hW.alike, ((h2.kept hS.2.1).narrow hF).moved hW.alike, fun w hw => ?_, fun q hq => ?_, fun E hE E' hE' hne => (h5 E hE E' hE' hne).moved hW.alike⟩
  · have h9 := h3 w hw
    rcases List.mem_append.mp hw with h | h
    · obtain ⟨E, -, rfl⟩ := List.mem_map.mp h
      exact va_Nw.warmC hW h9
    · obtain ⟨E, -, rfl⟩ := List.mem_map.mp h
      exact va_Nw.warmD hW h9
  · obtain ⟨sa, hsa⟩ := h4 q hq
    exact ⟨sa, vk_R.warm hW hsa⟩
theorem zEnv.call {A : Nat → Prop} {U : State} {H : Heap} {g : JFrame} {mk : MethodId} {a : Array Value} (h : zEnv A U H) : zEnv A (U.calling g mk a) H := by
  obtain ⟨h1, h2, h3, h4, h5⟩ := h
  refine ⟨vx_Zq.moved (u := U) (U := U.calling g mk a) (Vm.Alike.refl U.vm) h1, vx_Zq.moved (u := U) (U := U.calling g mk a) (Vm.Alike.refl U.vm) h2, fun w hw => ?_, fun q hq => ?_, fun E hE E' hE' hne => va_Nc.moved (u := U) (U := U.calling g mk a) (Vm.Alike.refl U.vm) (h5 E hE E' hE' hne)⟩
  · exact va_Nw.same (zBad_t w hw) (rfl : U.vm = (U.calling g mk a).vm) (h3 w hw)
  · obtain ⟨sa, hsa⟩ := h4 q hq
    exact ⟨sa, vk_R.same (u := U) rfl hsa⟩
def zPcX (D : va_G) (ct : zCT) (As : List Value) (ws : va_W) (sz : Nat) : Array Value → State → Prop := va_Pc As (fun U => (U.heap.size = sz ∧ va_P D vwCl ws U.heap ∧ va_K D vwCl (zT ct) U ∧ va_D (fun _ => True) ws) ∧ zEnv (va_A ws sz) U U.heap)
theorem zPcX_blind {D : va_G} {ct : zCT} {As : List Value} {ws : va_W} {sz : Nat} : FrameBlind (zPcX D ct As ws sz) := by
  intro a U g mk q
  obtain ⟨q0, ⟨q1, qP, qK, qD⟩, qE⟩ := q
  exact ⟨q0, ⟨q1, qP, va_K.moved (u := U) (U := U.calling g mk a) (Vm.Alike.refl U.vm) qK, qD⟩, qE.call⟩
def zXC (D : va_G) (ws : va_W) (E : String) (sz : Nat) : String → State → State → Prop := fun E' st t => E' = E ∧ va_P D vwCl ws t.heap ∧ va_F (va_A ws sz) st t
def zNo : Array Value → State → Outcome → State → Prop := fun _ _ _ _ => False
def zMetX (l : Launch) (y : MethodName) (wsC : List Cond) (rm : Room) (D : va_G) (ct : zCT) (As : List Value) (ws : va_W) (E : String) (mc ms : Nat) : Prop :=
  ∀ sz : Nat, vx_Met l y wsC rm (zPcX D ct As ws sz) zNo (zXC D ws E sz) mc ms (va_A ws sz)
/-- what a body that throws E at last owes -/
def zXQ (D : va_G) (ws : va_W) (E : String) (below : List Frame) (args : Array Value) (s : State) (mc ms : Nat) : State → Prop := vx_MQ below zNo (zXC D ws E s.heap.size) args s mc ms (va_A ws s.heap.size)
theorem zMetX_of {l : Launch} {y : MethodName} {wsC wsC' : List Cond} {rm : Room} {D : va_G} {ct : zCT} {As : List Value} {ws : va_W} {E : String} {mc ms : Nat} {cc : ByteArray} {maxL : Nat} {ret : Option FieldType} (hy : plainName y.cls = true) (hw : wsC = Cond.code y cc maxL ret :: wsC') (hA : (lg_sl As).length ≤ maxL)
    (body : ∀ (p : Program) (e : Env) (s : State) (m : MethodId) (below : List Frame) (meth : Method) (c : Code) (A : Nat → Prop) (Q : State → Prop), zC p s m As.toArray c cc y.cls wsC maxL D ct A → A = va_A ws s.heap.size → Q = zXQ D ws E below As.toArray s mc ms → zEnv A s s.heap → meth.locks = false → (∀ x ∈ c.exceptionTable.toList, False) →
      zW p l e rm s m As.toArray below meth c D A maxL Q 0 0 ws (lv_args 0 As) 0 []) : zMetX l y wsC rm D ct As ws E mc ms := by
  intro sz
  refine vx_ofW (cc := cc) (maxL := maxL) (ret := ret) hy hw ?_
  intro p e s m args below meth c s₁ B hml ht hv
  obtain ⟨rfl, ⟨hsz, hP, hK, hD0⟩, hE⟩ := hv
  have hx := B.exec
  have hb := B.bytes
  have hts := atoms_spec (ws := wsC) B.pre
  have hown : s.vm.findClass y.cls = some m.cls := findClass_of_methodNamed B.named
  have hlocks := B.notSynchronized
  subst hsz
  have hD := hD0.self (sz := s.heap.size)
  rw [lg_entry_eq]
  have hl := lv_entry As (n := maxL) hA
  exact body p e s m below meth c (va_A ws s.heap.size) _ ⟨⟨hx, hb, hml, hown, hts⟩, hK, fun q h => Or.inr h⟩ rfl rfl hE hlocks ht s.heap [] _ hP hD va_S.rf hl
section ZX
variable {p : Program} {l : Launch} {e : Env} {R : Room} {s : State} {m : MethodId} {args : Array Value} {below : List Frame} {meth : Method} {c : Code} {D : va_G} {A : Nat → Prop} {nL : Nat} {Q : State → Prop} {cells slots : Nat} {ws : va_W} {lv : List (Nat × Value)} {pc : Nat} {st : List Value} {cc : ByteArray} {own : String} {Ts : List Cond} {ct : zCT} {E : String} {mc ms : Nat}
/-- the throw itself -/
theorem z_throw (Z : zC p s m args c cc own Ts nL D ct A) (hA : A = va_A ws s.heap.size) (hQ : Q = zXQ D ws E below args s mc ms) (hE : zEnv A s s.heap) (hlocks : meth.locks = false) (hout : ∀ x ∈ c.exceptionTable.toList, False) (hl : l.stackTraces = false) {ik is ic : Nat} {text : String} {names : List String} (hown : own = RX6) (hcls : Bundle.fit E = true) (hnames : ∀ n ∈ names, Bundle.fit n = true)
    (hk : Cond.classLink own ik E ∈ Ts) (hini : Cond.initialized E ∈ Ts) (hg : ∀ w ∈ (vx_atS own ic E names).filter goodWord, w ∈ Ts) (hb : ∀ w ∈ (vx_atS own ic E names).filter (fun w => !goodWord w), w ∈ zBad) (hgood : ∀ w ∈ Cond.classLink own ik E :: Cond.initialized E :: vx_atS own ic E names, vx_ot w = true) (hstr : (is, text) ∈ zStr)
    (d0 : decode cc pc = .ok (.new ik, 3)) (d3 : decode cc (pc + 3) = .ok (.dup, 1)) (d4 : decode cc (pc + 4) = .ok (.ldc is, 2)) (d6 : decode cc (pc + 6) = .ok (.invokespecial ic, 3)) (d9 : decode cc (pc + 9) = .ok (.athrow, 1))
    (hRframes : names.length + 3 < R.frames) (hRlocals : (st.map fun v => v.category).sum + (13 * (names.length + 1) + 43) ≤ R.locals) (hRcells : cells + 1 ≤ R.cells) (hRslots : slots + 6 ≤ R.slots) (hmc : cells + 1 ≤ mc) (hms : slots + 6 ≤ ms) : zW p l e R s m args below meth c D A nL Q cells slots ws lv pc st := by
  intro H locs ls hP hD hS hlv
  obtain ⟨hU, hN, hC, hT, -⟩ := hE
  obtain ⟨sa, hsa⟩ := hT _ hstr
  subst hown; subst hQ
  refine vx_throwS Z.1.1 Z.1.2.1 hl Z.1.2.2.2.1 hcls hnames (Z.1.2.2.2.2 _ hk) (Z.1.2.2.2.2 _ hini) hsa ?_ hgood hU hN hS (hlv.1.trans Z.1.2.2.1.symm) d0 d3 d4 d6 d9 (fun x hx => (hout x hx).elim) hRframes hRlocals hRcells hRslots hlocks ?_ (by rw [← hA]; exact hS.2.2) hmc hms
  · exact vx_hat (B := zBad) (fun w hw => Z.1.2.2.2.2 _ (hg w hw)) hb (fun w hw => va_Nw.use (zBad_t w hw) (hC w hw))
  · intro t hal hsz hsame
    refine ⟨rfl, fun k q hq => (hP k q hq).kept (hsame q.1 (hP k q hq).lt), Nat.le_trans hS.1 hsz, fun q h1 h2 => ?_⟩
    rw [hsame q (Nat.lt_of_lt_of_le h1 hS.1)]
    exact hS.2.1 q h1 (by rw [hA]; exact h2)
variable {y : MethodName} {wsC : List Cond} {rm : Room} {As : List Value} {wc wr : va_W} {mc9 ms9 n ix maxL : Nat} {bytes : ByteArray} {ret : Option FieldType} {rest : List Value} {b : Nat}
theorem z_out {H : Heap} {locs : List Loc} {ls : Array Slot} {a : Array Value} {st0 : List Value} (hA : A = va_A ws s.heap.size) (hA2 : ∀ q : Nat, s.heap.size ≤ q → A q) (hQ : Q = zXQ D ws E below args s mc ms) (hlocks : meth.locks = false) (hout : ∀ x ∈ c.exceptionTable.toList, False) (hp : ws.Perm (wc ++ wr)) (hP : va_P D vwCl ws H) (hD : va_D A ws) (hS : va_S A s.heap H locs)
    (hr : vx_Run p l e R s m args below meth c H locs cells slots mc9 ms9 (F0 m pc ls st0) rest (zNo a) (zXC D wc E H.size) (va_A wc H.size)) (hmc : cells + mc9 ≤ mc) (hms : slots + ms9 ≤ ms) : W p l e R s m args below meth c H locs cells slots Q (F0 m pc ls st0) := by
  intro T hT X
  rcases hr T hT X with ⟨v, st₀, t, T', L, h0, X', hL, e1, e2, hf, st⟩ | ⟨q, st₀, t, T', L, E9, ce, h0, X', hL, e1, e2, ⟨rfl, hP1, hF1⟩, hce, hcv, hcl, st⟩
  · exact hf.elim
  · have hP2 := zP_perm hp hP
    have hD2 := zD_perm hp hD
    obtain ⟨hz, hk⟩ := hF1
    rw [h0] at hz hk
    have hF : ∀ q, va_A wc H.size q → A q := by
      intro q hq
      rcases hq with ⟨k, e9, h⟩ | h
      · exact (zD_l hD2).2 k (q, e9) h
      · exact hA2 q (Nat.le_trans hS.1 h)
    have hRk : ∀ (k : Nat) (q : Nat × va_E), wr[k]? = some q → q.1 < H.size ∧ ¬ va_A wc H.size q.1 := by
      intro k q hq
      have hlt := (zP_r hP2 k q hq).lt
      refine ⟨hlt, fun h => ?_⟩
      rcases h with ⟨k2, e9, h⟩ | h
      · exact zD_x hD2 (q.1, e9) (List.mem_of_getElem? h) q (List.mem_of_getElem? hq) rfl
      · omega
    have hP3 : va_P D vwCl ws t.heap := by
      refine zP_perm hp.symm ?_
      exact va_P.app hP1 (fun k q hq => ((zP_r hP2) k q hq).kept (hk q.1 (hRk k q hq).1 (hRk k q hq).2))
    have hS3 : ∀ q : Nat, q < s.heap.size → ¬ A q → t.heap[q]? = s.heap[q]? := fun q h1 h2 => by
      rw [hk q (Nat.lt_of_lt_of_le h1 hS.1) (fun z => h2 (hF q z))]; exact hS.2.1 q h1 h2
    have key : vx_W p l e R s m args below meth c T'.heap (locs ++ L) (cells + mc9) (slots + ms9) Q (F0 m pc ls rest) q := by
      rw [hQ]
      refine vx_out (fun x hx => (hout x hx).elim) hlocks (by rw [e1]; exact hce) hcv hcl (fun t9 ht9 hal => ?_) (fun z hz9 => ?_) hmc hms
      · refine ⟨rfl, by rw [ht9, e1]; exact hP3, ?_, fun q h1 h2 => ?_⟩
        · rw [ht9, e1]; exact Nat.le_trans hS.1 hz
        · rw [ht9, e1]; exact hS3 q h1 (by rw [hA]; exact h2)
      · rw [← hA]
        rcases List.mem_append.mp hz9 with h | h
        · exact hS.2.2 z h
        · exact hF _ (hL z h)
    obtain ⟨t2, a1, b1⟩ := key T' rfl X'
    exact ⟨t2, st.trans a1, b1⟩
theorem z_preX (Z : zC p s m args c cc own Ts nL D ct A) (hE : zEnv A s s.heap) {H : Heap} {locs : List Loc} {As9 : List Value} (hp : ws.Perm (wc ++ wr)) (hP : va_P D vwCl ws H) (hD : va_D A ws) (hS : va_S A s.heap H locs) : ∀ U : State, U.heap = H → s.WarmedH U.vm → zPcX D ct As9 wc H.size As9.toArray U := by
  intro U hU hW
  refine ⟨rfl, ⟨by rw [hU], by rw [hU]; exact zP_l (zP_perm hp hP), va_K.moved hW.alike Z.2.1, (zD_l (zD_perm hp hD)).weaken (fun _ _ _ _ => trivial)⟩, ?_⟩
  rw [hU]
  refine hE.to hS hW (fun q hq => ?_)
  rcases hq with ⟨k, e9, h⟩ | h
  · exact (zD_l (zD_perm hp hD)).2 k (q, e9) h
  · exact Z.2.2 q (Nat.le_trans hS.1 h)
theorem z_callVX (Z : zC p s m args c cc own Ts nL D ct A) (hA : A = va_A ws s.heap.size) (hQ : Q = zXQ D ws E below args s mc ms) (hE : zEnv A s s.heap) (hlocks : meth.locks = false) (hout : ∀ x ∈ c.exceptionTable.toList, False) (hdg : decode cc pc = .ok (.invokevirtual ix, 3)) {C9 : String} (ci q0 : Nat) (fs : List Value) (q : vw_C) (hc : vwCl[ci]? = some q) (hq : q.1 = C9) (he : ws[q0]? = some (zO b ci fs)) (hM : zMetX l y wsC rm D ct (.ref b :: As) wc E mc9 ms9) (cw : CallW R s args own C9 ix y bytes maxL ret wsC rm mc9 ms9 n) (hn : As.length = n) (hrest : (rest.map fun v => v.category).sum ≤ 8) (hf : cells + mc9 ≤ R.cells ∧ slots + ms9 ≤ R.slots) (hp : ws.Perm (wc ++ wr)) (hst : st = As.reverse ++ .ref b :: rest) (hmc : cells + mc9 ≤ mc) (hms : slots + ms9 ≤ ms) : zW p l e R s m args below meth c D A nL Q cells slots ws lv pc st := by
  intro H locs ls hP hD hS hl
  subst hst
  exact z_out hA Z.2.2 hQ hlocks hout hp hP hD hS (vx_runV (rest := rest) Z.1 (hM H.size) cw ⟨zPcX_blind, (by rw [← hq]; exact va_recv Z.2.1 hP hc he), z_preX Z hE hp hP hD hS⟩ rfl hn hl.1 rfl (lv_room hrest) hdg hf) hmc hms
theorem z_callSX (Z : zC p s m args c cc own Ts nL D ct A) (hA : A = va_A ws s.heap.size) (hQ : Q = zXQ D ws E below args s mc ms) (hE : zEnv A s s.heap) (hlocks : meth.locks = false) (hout : ∀ x ∈ c.exceptionTable.toList, False) (hdg : decode cc pc = .ok (.invokestatic ix, 3)) (hM : zMetX l y wsC rm D ct As wc E mc9 ms9) (cw : CallB R s args own ix y bytes maxL ret wsC rm mc9 ms9 n ∧ (Cond.static y).before args s = true) (hn : As.length = n) (hrest : (rest.map fun v => v.category).sum ≤ 8) (hf : cells + mc9 ≤ R.cells ∧ slots + ms9 ≤ R.slots) (hp : ws.Perm (wc ++ wr)) (hst : st = As.reverse ++ rest) (hmc : cells + mc9 ≤ mc) (hms : slots + ms9 ≤ ms) : zW p l e R s m args below meth c D A nL Q cells slots ws lv pc st := by
  intro H locs ls hP hD hS hl
  subst hst
  exact z_out hA Z.2.2 hQ hlocks hout hp hP hD hS (vx_runS (rest := rest) Z.1 (hM H.size) cw ⟨zPcX_blind, z_preX Z hE hp hP hD hS⟩ rfl hn hl.1 rfl (lv_room hrest) hdg hf) hmc hms
end ZX
