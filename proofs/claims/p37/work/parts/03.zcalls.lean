/-! contracts over the layer zW, and calls of them: the callee's cells are cut out of the world by a mask, and put back in their places -/
def zpick : List Bool → va_W → va_W
  | [], _ => []
  | _ :: _, [] => []
  | true :: m, x :: w => x :: zpick m w
  | false :: m, _ :: w => zpick m w
def zrest : List Bool → va_W → va_W
  | [], w => w
  | _ :: _, [] => []
  | true :: m, _ :: w => zrest m w
  | false :: m, x :: w => x :: zrest m w
def zmerge : List Bool → va_W → va_W → va_W
  | [], a, b => a ++ b
  | true :: m, x :: a, b => x :: zmerge m a b
  | true :: m, [], b => zmerge m [] b
  | false :: m, a, y :: b => y :: zmerge m a b
  | false :: m, a, [] => zmerge m a []
theorem zcut : ∀ (m : List Bool) (w : va_W), w.Perm (zpick m w ++ zrest m w)
  | [], w => by simp only [zpick, zrest, List.nil_append]; exact List.Perm.refl _
  | true :: m, [] => by simp only [zpick, zrest, List.append_nil]; exact List.Perm.refl _
  | false :: m, [] => by simp only [zpick, zrest, List.append_nil]; exact List.Perm.refl _
  | true :: m, x :: w => by
    simp only [zpick, zrest, List.cons_append]
    exact List.Perm.cons x (zcut m w)
  | false :: m, x :: w => by
    simp only [zpick, zrest]
    exact (List.Perm.cons x (zcut m w)).trans List.perm_middle.symm
theorem zback : ∀ (m : List Bool) (a b : va_W), (a ++ b).Perm (zmerge m a b)
  | [], a, b => by simp only [zmerge]; exact List.Perm.refl _
  | true :: m, x :: a, b => by
    simp only [zmerge, List.cons_append]
    exact List.Perm.cons x (zback m a b)
  | true :: m, [], b => by simp only [zmerge]; exact zback m [] b
  | false :: m, a, y :: b => by
    simp only [zmerge]
    exact List.perm_middle.trans (List.Perm.cons y (zback m a b))
  | false :: m, a, [] => by simp only [zmerge]; exact zback m a []
theorem zcut_of {ws wc wr : va_W} (mask : List Bool) (h1 : zpick mask ws = wc) (h2 : zrest mask ws = wr) : ws.Perm (wc ++ wr) := by
  subst h1; subst h2; exact zcut mask ws
theorem zP_perm {D : va_G} {cl : List vw_C} {ws ws' : va_W} {H : Heap} (hp : ws.Perm ws') (h : va_P D cl ws H) : va_P D cl ws' H := by
  intro k q hk
  have h1 : q ∈ ws := hp.mem_iff.mpr (List.mem_of_getElem? hk)
  obtain ⟨i, hi⟩ := List.getElem?_of_mem h1
  exact h i q hi
theorem zD_nd {A : Nat → Prop} {ws : va_W} (h : va_D A ws) : (ws.map Prod.fst).Nodup := by
  rw [List.nodup_iff_pairwise_ne, List.pairwise_iff_getElem]
  intro i j hi hj hij he
  rw [List.length_map] at hi hj
  rw [List.getElem_map, List.getElem_map] at he
  have := h.1 i j ws[i] ws[j] (List.getElem?_eq_getElem hi) (List.getElem?_eq_getElem hj) he
  omega
theorem zD_of {A : Nat → Prop} {ws : va_W} (h1 : (ws.map Prod.fst).Nodup) (h2 : ∀ q ∈ ws, A q.1) : va_D A ws := by
  refine ⟨fun i j p q hi hj he => ?_, fun k q hk => h2 q (List.mem_of_getElem? hk)⟩
  have hl : i < (ws.map Prod.fst).length := by rw [List.length_map]; exact (List.getElem?_eq_some_iff.mp hi).1
  refine (List.getElem?_inj hl h1).mp ?_
  rw [List.getElem?_map, List.getElem?_map, hi, hj]
  show some p.1 = some q.1
  rw [he]
theorem zD_perm {A : Nat → Prop} {ws ws' : va_W} (hp : ws.Perm ws') (h : va_D A ws) : va_D A ws' := by
  refine zD_of ((hp.map Prod.fst).nodup (zD_nd h)) (fun q hq => ?_)
  obtain ⟨i, hi⟩ := List.getElem?_of_mem (hp.mem_iff.mpr hq)
  exact h.2 i q hi
theorem zP_l {D : va_G} {cl : List vw_C} {a b : va_W} {H : Heap} (h : va_P D cl (a ++ b) H) : va_P D cl a H := fun k q hk => by
  have hl := (List.getElem?_eq_some_iff.mp hk).1
  exact h k q (by rw [List.getElem?_append_left hl]; exact hk)
theorem zP_r {D : va_G} {cl : List vw_C} {a b : va_W} {H : Heap} (h : va_P D cl (a ++ b) H) : va_P D cl b H := fun k q hk => h (a.length + k) q (by rw [List.getElem?_append_right (by omega), show a.length + k - a.length = k by omega]; exact hk)
theorem zD_l {A : Nat → Prop} {a b : va_W} (h : va_D A (a ++ b)) : va_D A a := by
  have h1 := zD_nd h
  rw [List.map_append] at h1
  refine zD_of (List.nodup_append.mp h1).1 (fun q hq => ?_)
  obtain ⟨i, hi⟩ := List.getElem?_of_mem (List.mem_append_left b hq)
  exact h.2 i q hi
theorem zD_r {A : Nat → Prop} {a b : va_W} (h : va_D A (a ++ b)) : va_D A b := by
  have h1 := zD_nd h
  rw [List.map_append] at h1
  refine zD_of (List.nodup_append.mp h1).2.1 (fun q hq => ?_)
  obtain ⟨i, hi⟩ := List.getElem?_of_mem (List.mem_append_right a hq)
  exact h.2 i q hi
theorem zD_x {A : Nat → Prop} {a b : va_W} (h : va_D A (a ++ b)) : ∀ q ∈ a, ∀ r ∈ b, q.1 ≠ r.1 := by
  intro q hq r hr he
  have h1 := zD_nd h
  rw [List.map_append] at h1
  exact (List.nodup_append.mp h1).2.2 q.1 (List.mem_map_of_mem hq) r.1 (List.mem_map_of_mem hr) he
/-- what a method starts from, and what it leaves -/
def zPc (D : va_G) (ct : zCT) (As : List Value) (ws : va_W) (sz : Nat) : Array Value → State → Prop := va_Pc As (fun U => U.heap.size = sz ∧ va_P D vwCl ws U.heap ∧ va_K D vwCl (zT ct) U ∧ va_D (fun _ => True) ws)
def zQ {S : Type} (D : va_G) (ct : zCT) (ws : va_W) (post : S → Prop) (res : S → Option Value) (ws' : S → va_W) (sz : Nat) : Array Value → State → Outcome → State → Prop := fun _ st oc t =>
  (∃ u : S, oc = .returned (res u) ∧ post u ∧ va_P D vwCl (ws' u) t.heap ∧ va_D (va_A ws sz) (ws' u)) ∧ va_F (va_A ws sz) st t
def zMet {S : Type} (l : Launch) (y : MethodName) (wsC : List Cond) (rm : Room) (D : va_G) (ct : zCT) (As : List Value) (ws : va_W) (post : S → Prop) (res : S → Option Value) (ws' : S → va_W) (mc ms : Nat) : Prop :=
  ∀ sz : Nat, Met l y wsC rm (zPc D ct As ws sz) (zQ D ct ws post res ws' sz) mc ms (va_A ws sz)
theorem zPc_blind {D : va_G} {ct : zCT} {As : List Value} {ws : va_W} {sz : Nat} : FrameBlind (zPc D ct As ws sz) := by
  intro a U g mk q
  obtain ⟨q0, q1, qP, qK, qD⟩ := q
  exact ⟨q0, q1, qP, va_K.moved (u := U) (U := U.calling g mk a) (Vm.Alike.refl U.vm) qK, qD⟩
section ZM
variable {l : Launch} {y : MethodName} {wsC wsC' : List Cond} {rm : Room} {D : va_G} {ct : zCT} {As : List Value} {ws : va_W} {S : Type} {post : S → Prop} {ws' : S → va_W} {mc ms : Nat} {cc : ByteArray} {maxL : Nat}
theorem zMet_i {r : S → Int} (hy : plainName y.cls = true) (hw : wsC = Cond.code y cc maxL (some .int) :: wsC') (hA : (lg_sl As).length ≤ maxL) 
    (body : ∀ (p : Program) (e : Env) (s : State) (m : MethodId) (below : List Frame) (meth : Method) (c : Code) (A : Nat → Prop) (Q : State → Prop), zC p s m As.toArray c cc y.cls wsC maxL D ct A → meth.name = y.name →
      (∀ (lv : List (Nat × Value)) (pc : Nat) (u : S), post u → decode cc pc = .ok (.ireturn, 1) → zW p l e rm s m As.toArray below meth c D A maxL Q mc ms (ws' u) lv pc [zi (r u)]) →
      zW p l e rm s m As.toArray below meth c D A maxL Q 0 0 ws (lv_args 0 As) 0 []) : zMet l y wsC rm D ct As ws post (fun u => some (zi (r u))) ws' mc ms := by
  intro sz
  refine Met.ofW (cc := cc) (maxL := maxL) (ret := (some .int)) hy hw ?_
  intro p e s m args below meth c s₁ B hml hv
  obtain ⟨rfl, hsz, hP, hK, hD0⟩ := hv
  have hx := B.exec
  have hb := B.bytes
  have hr := B.returns
  have hts := atoms_spec (ws := wsC) B.pre
  have hown : s.vm.findClass y.cls = some m.cls := findClass_of_methodNamed B.named
  have hnm : meth.name = y.name := (name_of_methodNamed B.named B.method).1
  have hlocks := B.notSynchronized
  subst hsz
  have hD := hD0.self (sz := s.heap.size)
  rw [lg_entry_eq]
  have hl := lv_entry As (n := maxL) hA
  refine body p e s m below meth c (va_A ws s.heap.size) _ ⟨⟨hx, hb, hml, hown, hts⟩, hK, fun q h => Or.inr h⟩ hnm ?_ s.heap [] _ hP hD va_S.rf hl
  intro lv pc u hu hdg H locs ls hP1 hD1 hS1 hl1
  exact W.iret (v := zI (r u)) hx hb hr (fun t ht hW => ⟨⟨u, rfl, hu, by rw [ht]; exact hP1, hD1⟩, hS1.F ht⟩) hS1.2.2 hdg
theorem zMet_z {r : S → Int} (hy : plainName y.cls = true) (hw : wsC = Cond.code y cc maxL (some .boolean) :: wsC') (hA : (lg_sl As).length ≤ maxL) (hn : ∀ u, post u → narrow .boolean (zi (r u)) = zi (r u))
    (body : ∀ (p : Program) (e : Env) (s : State) (m : MethodId) (below : List Frame) (meth : Method) (c : Code) (A : Nat → Prop) (Q : State → Prop), zC p s m As.toArray c cc y.cls wsC maxL D ct A → meth.name = y.name →
      (∀ (lv : List (Nat × Value)) (pc : Nat) (u : S), post u → decode cc pc = .ok (.ireturn, 1) → zW p l e rm s m As.toArray below meth c D A maxL Q mc ms (ws' u) lv pc [zi (r u)]) →
      zW p l e rm s m As.toArray below meth c D A maxL Q 0 0 ws (lv_args 0 As) 0 []) : zMet l y wsC rm D ct As ws post (fun u => some (zi (r u))) ws' mc ms := by
  intro sz
  refine Met.ofW (cc := cc) (maxL := maxL) (ret := (some .boolean)) hy hw ?_
  intro p e s m args below meth c s₁ B hml hv
  obtain ⟨rfl, hsz, hP, hK, hD0⟩ := hv
  have hx := B.exec
  have hb := B.bytes
  have hr := B.returns
  have hts := atoms_spec (ws := wsC) B.pre
  have hown : s.vm.findClass y.cls = some m.cls := findClass_of_methodNamed B.named
  have hnm : meth.name = y.name := (name_of_methodNamed B.named B.method).1
  have hlocks := B.notSynchronized
  subst hsz
  have hD := hD0.self (sz := s.heap.size)
  rw [lg_entry_eq]
  have hl := lv_entry As (n := maxL) hA
  refine body p e s m below meth c (va_A ws s.heap.size) _ ⟨⟨hx, hb, hml, hown, hts⟩, hK, fun q h => Or.inr h⟩ hnm ?_ s.heap [] _ hP hD va_S.rf hl
  intro lv pc u hu hdg H locs ls hP1 hD1 hS1 hl1
  exact W.zret (v := zI (r u)) hx hb hr (hn u hu) (fun t ht hW => ⟨⟨u, rfl, hu, by rw [ht]; exact hP1, hD1⟩, hS1.F ht⟩) hS1.2.2 hdg
theorem zMet_v (hy : plainName y.cls = true) (hw : wsC = Cond.code y cc maxL none :: wsC') (hA : (lg_sl As).length ≤ maxL) 
    (body : ∀ (p : Program) (e : Env) (s : State) (m : MethodId) (below : List Frame) (meth : Method) (c : Code) (A : Nat → Prop) (Q : State → Prop), zC p s m As.toArray c cc y.cls wsC maxL D ct A → meth.name = y.name →
      (∀ (lv : List (Nat × Value)) (pc : Nat) (u : S), post u → decode cc pc = .ok (.return_, 1) → zW p l e rm s m As.toArray below meth c D A maxL Q mc ms (ws' u) lv pc []) →
      zW p l e rm s m As.toArray below meth c D A maxL Q 0 0 ws (lv_args 0 As) 0 []) : zMet l y wsC rm D ct As ws post (fun _ => none) ws' mc ms := by
  intro sz
  refine Met.ofW (cc := cc) (maxL := maxL) (ret := none) hy hw ?_
  intro p e s m args below meth c s₁ B hml hv
  obtain ⟨rfl, hsz, hP, hK, hD0⟩ := hv
  have hx := B.exec
  have hb := B.bytes
  have hr := B.returns
  have hts := atoms_spec (ws := wsC) B.pre
  have hown : s.vm.findClass y.cls = some m.cls := findClass_of_methodNamed B.named
  have hnm : meth.name = y.name := (name_of_methodNamed B.named B.method).1
  have hlocks := B.notSynchronized
  subst hsz
  have hD := hD0.self (sz := s.heap.size)
  rw [lg_entry_eq]
  have hl := lv_entry As (n := maxL) hA
  refine body p e s m below meth c (va_A ws s.heap.size) _ ⟨⟨hx, hb, hml, hown, hts⟩, hK, fun q h => Or.inr h⟩ hnm ?_ s.heap [] _ hP hD va_S.rf hl
  intro lv pc u hu hdg H locs ls hP1 hD1 hS1 hl1
  exact W.vret hx hb hr (fun t ht hW => ⟨⟨u, rfl, hu, by rw [ht]; exact hP1, hD1⟩, hS1.F ht⟩) hS1.2.2 hdg
theorem zMet_f {r : S → UInt32} (hy : plainName y.cls = true) (hw : wsC = Cond.code y cc maxL (some .float) :: wsC') (hA : (lg_sl As).length ≤ maxL) 
    (body : ∀ (p : Program) (e : Env) (s : State) (m : MethodId) (below : List Frame) (meth : Method) (c : Code) (A : Nat → Prop) (Q : State → Prop), zC p s m As.toArray c cc y.cls wsC maxL D ct A → meth.name = y.name →
      (∀ (lv : List (Nat × Value)) (pc : Nat) (u : S), post u → decode cc pc = .ok (.freturn, 1) → zW p l e rm s m As.toArray below meth c D A maxL Q mc ms (ws' u) lv pc [.float (r u)]) →
      zW p l e rm s m As.toArray below meth c D A maxL Q 0 0 ws (lv_args 0 As) 0 []) : zMet l y wsC rm D ct As ws post (fun u => some (.float (r u))) ws' mc ms := by
  intro sz
  refine Met.ofW (cc := cc) (maxL := maxL) (ret := (some .float)) hy hw ?_
  intro p e s m args below meth c s₁ B hml hv
  obtain ⟨rfl, hsz, hP, hK, hD0⟩ := hv
  have hx := B.exec
  have hb := B.bytes
  have hr := B.returns
  have hts := atoms_spec (ws := wsC) B.pre
  have hown : s.vm.findClass y.cls = some m.cls := findClass_of_methodNamed B.named
  have hnm : meth.name = y.name := (name_of_methodNamed B.named B.method).1
  have hlocks := B.notSynchronized
  subst hsz
  have hD := hD0.self (sz := s.heap.size)
  rw [lg_entry_eq]
  have hl := lv_entry As (n := maxL) hA
  refine body p e s m below meth c (va_A ws s.heap.size) _ ⟨⟨hx, hb, hml, hown, hts⟩, hK, fun q h => Or.inr h⟩ hnm ?_ s.heap [] _ hP hD va_S.rf hl
  intro lv pc u hu hdg H locs ls hP1 hD1 hS1 hl1
  exact W.fret (v := r u) hx hb hr (fun t ht hW => ⟨⟨u, rfl, hu, by rw [ht]; exact hP1, hD1⟩, hS1.F ht⟩) hS1.2.2 hdg
end ZM
theorem zW_perm {p : Program} {l : Launch} {e : Env} {R : Room} {s : State} {m : MethodId} {args : Array Value} {below : List Frame} {meth : Method} {c : Code} {D : va_G} {A : Nat → Prop} {nL : Nat} {Q : State → Prop} {cells slots : Nat} {ws : va_W} {lv : List (Nat × Value)} {pc : Nat} {st : List Value} (ws' : va_W) (hp : ws.Perm ws') (kk : zW p l e R s m args below meth c D A nL Q cells slots ws' lv pc st) : zW p l e R s m args below meth c D A nL Q cells slots ws lv pc st :=
  fun H locs ls hP hD hS hl => kk H locs ls (zP_perm hp hP) (zD_perm hp hD) hS hl
section ZCALL
variable {p : Program} {l : Launch} {e : Env} {R : Room} {s : State} {m : MethodId} {args : Array Value} {below : List Frame} {meth : Method} {c : Code} {D : va_G} {A : Nat → Prop} {nL : Nat} {Q : State → Prop} {cells slots : Nat} {ws : va_W} {lv : List (Nat × Value)} {pc : Nat} {st : List Value} {cc : ByteArray} {own : String} {Ts : List Cond} {ct : zCT}
variable {S : Type} {y : MethodName} {wsC : List Cond} {rm : Room} {As : List Value} {wc wr : va_W} {post : S → Prop} {res : S → Option Value} {ws' : S → va_W} {mc ms n ix maxL : Nat} {bytes : ByteArray} {ret : Option FieldType} {rest : List Value} {b : Nat}
theorem z_ran {H : Heap} {locs : List Loc} {ls : Array Slot} {a : Array Value} {st0 : List Value} (hA : ∀ q : Nat, s.heap.size ≤ q → A q) (hp : ws.Perm (wc ++ wr)) (hP : va_P D vwCl ws H) (hD : va_D A ws) (hS : va_S A s.heap H locs)
    (hr : va_Run p l e R s m args below meth c H locs cells slots mc ms (F0 m pc ls st0) rest (zQ D ct wc post res ws' H.size a) (va_A wc H.size)) (hl : lv_has ls nL lv)
    (kk : ∀ u, post u → zW p l e R s m args below meth c D A nL Q (cells + mc) (slots + ms) (ws' u ++ wr) lv (pc + 3) ((res u).toList ++ rest)) :
    W p l e R s m args below meth c H locs cells slots Q (F0 m pc ls st0) := by
  intro T hT X
  obtain ⟨v, st₀, t, T', L, h0, X', hL, e1, e2, ⟨⟨u, hv, hpost, hP1, hD1⟩, hz, hk⟩, st⟩ := hr T hT X
  cases hv
  rw [h0] at hz hk
  have hP2 := zP_perm hp hP
  have hD2 := zD_perm hp hD
  have hF : ∀ q, va_A wc H.size q → A q := by
    intro q hq
    rcases hq with ⟨k, e9, h⟩ | h
    · exact (zD_l hD2).2 k (q, e9) h
    · exact hA q (Nat.le_trans hS.1 h)
  have hRk : ∀ (k : Nat) (q : Nat × va_E), wr[k]? = some q → q.1 < H.size ∧ ¬ va_A wc H.size q.1 := by
    intro k q hq
    have hlt := (zP_r hP2 k q hq).lt
    refine ⟨hlt, fun h => ?_⟩
    rcases h with ⟨k2, e9, h⟩ | h
    · exact zD_x hD2 (q.1, e9) (List.mem_of_getElem? h) q (List.mem_of_getElem? hq) rfl
    · omega
  have hP3 : va_P D vwCl (ws' u ++ wr) T'.heap := by
    rw [e1]
    exact va_P.app hP1 (fun k q hq => ((zP_r hP2) k q hq).kept (hk q.1 (hRk k q hq).1 (hRk k q hq).2))
  have hD3 : va_D A (ws' u ++ wr) := va_D.app (hD1.weaken (fun k q _ h => hF q.1 h)) (zD_r hD2) (fun i j x y hx hy hxy => (hRk j y hy).2 (by rw [← hxy]; exact hD1.2 i x hx))
  have hS3 : va_S A s.heap T'.heap (locs ++ L) := ⟨Nat.le_trans hS.1 (by rw [e1]; exact hz), fun q h1 h2 => by rw [e1, hk q (Nat.lt_of_lt_of_le h1 hS.1) (fun z => h2 (hF q z))]; exact hS.2.1 q h1 h2, fun q hq => by
      rcases List.mem_append.mp hq with h | h
      · exact hS.2.2 q h
      · exact hF _ (hL q h)⟩
  obtain ⟨t2, a1, b1⟩ := kk u hpost T'.heap (locs ++ L) ls hP3 hD3 hS3 hl T' rfl X'
  exact ⟨t2, st t2 a1, b1⟩
theorem z_pre (Z : zC p s m args c cc own Ts nL D ct A) {H : Heap} {As9 : List Value} (hp : ws.Perm (wc ++ wr)) (hP : va_P D vwCl ws H) (hD : va_D A ws) : ∀ U : State, U.heap = H → s.WarmedH U.vm → zPc D ct As9 wc H.size As9.toArray U :=
  fun U hU hW => ⟨rfl, by rw [hU], by rw [hU]; exact zP_l (zP_perm hp hP), va_K.moved hW.alike Z.2.1, (zD_l (zD_perm hp hD)).weaken (fun _ _ _ _ => trivial)⟩
theorem z_callV (Z : zC p s m args c cc own Ts nL D ct A) (hdg : decode cc pc = .ok (.invokevirtual ix, 3)) {C9 : String} (ci q0 : Nat) (fs : List Value) (q : vw_C) (hc : vwCl[ci]? = some q) (hq : q.1 = C9) (he : ws[q0]? = some (zO b ci fs)) (hM : zMet l y wsC rm D ct (.ref b :: As) wc post res ws' mc ms) (cw : CallW R s args own C9 ix y bytes maxL ret wsC rm mc ms n) (hn : As.length = n) (hrest : (rest.map fun v => v.category).sum ≤ 8) (hf : cells + mc ≤ R.cells ∧ slots + ms ≤ R.slots) (hp : ws.Perm (wc ++ wr)) (hst : st = As.reverse ++ .ref b :: rest)
    (kk : ∀ u, post u → zW p l e R s m args below meth c D A nL Q (cells + mc) (slots + ms) (ws' u ++ wr) lv (pc + 3) ((res u).toList ++ rest)) : zW p l e R s m args below meth c D A nL Q cells slots ws lv pc st := by
  intro H locs ls hP hD hS hl
  subst hst
  refine z_ran Z.2.2 hp hP hD hS (va_runV (rest := rest) Z.1 (hM H.size) cw ⟨zPc_blind, (by rw [← hq]; exact va_recv Z.2.1 hP hc he), z_pre Z hp hP hD⟩ rfl hn hl.1 rfl (lv_room hrest) hdg hf) hl kk
theorem z_callS (Z : zC p s m args c cc own Ts nL D ct A) (hdg : decode cc pc = .ok (.invokestatic ix, 3)) (hM : zMet l y wsC rm D ct As wc post res ws' mc ms) (cw : CallB R s args own ix y bytes maxL ret wsC rm mc ms n ∧ (Cond.static y).before args s = true) (hn : As.length = n) (hrest : (rest.map fun v => v.category).sum ≤ 8) (hf : cells + mc ≤ R.cells ∧ slots + ms ≤ R.slots) (hp : ws.Perm (wc ++ wr)) (hst : st = As.reverse ++ rest)
    (kk : ∀ u, post u → zW p l e R s m args below meth c D A nL Q (cells + mc) (slots + ms) (ws' u ++ wr) lv (pc + 3) ((res u).toList ++ rest)) : zW p l e R s m args below meth c D A nL Q cells slots ws lv pc st := by
  intro H locs ls hP hD hS hl
  subst hst
  refine z_ran Z.2.2 hp hP hD hS (va_runS (rest := rest) Z.1 (hM H.size) cw ⟨zPc_blind, z_pre Z hp hP hD⟩ rfl hn hl.1 rfl (lv_room hrest) hdg hf) hl kk
theorem z_callI (Z : zC p s m args c cc own Ts nL D ct A) (hdg : decode cc pc = .ok (.invokespecial ix, 3)) (hM : zMet l y wsC rm D ct (.ref b :: As) wc post res ws' mc ms) (cw : CallB R s args own ix y bytes maxL none wsC rm mc ms n ∧ y.name = "<init>" ∧ (Cond.instanceMethod y).before args s = true) (hn : As.length = n) (hrest : (rest.map fun v => v.category).sum ≤ 8) (hf : cells + mc ≤ R.cells ∧ slots + ms ≤ R.slots) (hp : ws.Perm (wc ++ wr)) (hst : st = As.reverse ++ .ref b :: rest)
    (kk : ∀ u, post u → zW p l e R s m args below meth c D A nL Q (cells + mc) (slots + ms) (ws' u ++ wr) lv (pc + 3) ((res u).toList ++ rest)) : zW p l e R s m args below meth c D A nL Q cells slots ws lv pc st := by
  intro H locs ls hP hD hS hl
  subst hst
  refine z_ran Z.2.2 hp hP hD hS (va_runI (rest := rest) Z.1 (hM H.size) cw ⟨zPc_blind, z_pre Z hp hP hD⟩ rfl hn hl.1 rfl (lv_room hrest) hdg hf) hl kk
theorem z_callVm (Z : zC p s m args c cc own Ts nL D ct A) (hdg : decode cc pc = .ok (.invokevirtual ix, 3)) {C9 : String} (ci q0 : Nat) (fs : List Value) (q : vw_C) (hc : vwCl[ci]? = some q) (hq : q.1 = C9) (he : ws[q0]? = some (zO b ci fs)) (hM : zMet l y wsC rm D ct (.ref b :: As) wc post res ws' mc ms) (cw : CallW R s args own C9 ix y bytes maxL ret wsC rm mc ms n) (hn : As.length = n) (hrest : (rest.map fun v => v.category).sum ≤ 8) (hf : cells + mc ≤ R.cells ∧ slots + ms ≤ R.slots) (mask : List Bool) (wn : S → va_W) (hm : zpick mask ws = wc) (hw9 : ∀ u, zmerge mask (ws' u) (zrest mask ws) = wn u) (hst : st = As.reverse ++ .ref b :: rest)
    (kk : ∀ u, post u → zW p l e R s m args below meth c D A nL Q (cells + mc) (slots + ms) (wn u) lv (pc + 3) ((res u).toList ++ rest)) : zW p l e R s m args below meth c D A nL Q cells slots ws lv pc st :=
  z_callV Z hdg ci q0 fs q hc hq he hM cw hn hrest hf (zcut_of mask hm rfl) hst (fun u hu => zW_perm (wn u) (by rw [← hw9 u]; exact zback mask _ _) (kk u hu))
theorem z_callSm (Z : zC p s m args c cc own Ts nL D ct A) (hdg : decode cc pc = .ok (.invokestatic ix, 3)) (hM : zMet l y wsC rm D ct As wc post res ws' mc ms) (cw : CallB R s args own ix y bytes maxL ret wsC rm mc ms n ∧ (Cond.static y).before args s = true) (hn : As.length = n) (hrest : (rest.map fun v => v.category).sum ≤ 8) (hf : cells + mc ≤ R.cells ∧ slots + ms ≤ R.slots) (mask : List Bool) (wn : S → va_W) (hm : zpick mask ws = wc) (hw9 : ∀ u, zmerge mask (ws' u) (zrest mask ws) = wn u) (hst : st = As.reverse ++ rest)
    (kk : ∀ u, post u → zW p l e R s m args below meth c D A nL Q (cells + mc) (slots + ms) (wn u) lv (pc + 3) ((res u).toList ++ rest)) : zW p l e R s m args below meth c D A nL Q cells slots ws lv pc st :=
  z_callS Z hdg hM cw hn hrest hf (zcut_of mask hm rfl) hst (fun u hu => zW_perm (wn u) (by rw [← hw9 u]; exact zback mask _ _) (kk u hu))
theorem z_callIm (Z : zC p s m args c cc own Ts nL D ct A) (hdg : decode cc pc = .ok (.invokespecial ix, 3)) (hM : zMet l y wsC rm D ct (.ref b :: As) wc post res ws' mc ms) (cw : CallB R s args own ix y bytes maxL none wsC rm mc ms n ∧ y.name = "<init>" ∧ (Cond.instanceMethod y).before args s = true) (hn : As.length = n) (hrest : (rest.map fun v => v.category).sum ≤ 8) (hf : cells + mc ≤ R.cells ∧ slots + ms ≤ R.slots) (mask : List Bool) (wn : S → va_W) (hm : zpick mask ws = wc) (hw9 : ∀ u, zmerge mask (ws' u) (zrest mask ws) = wn u) (hst : st = As.reverse ++ .ref b :: rest)
    (kk : ∀ u, post u → zW p l e R s m args below meth c D A nL Q (cells + mc) (slots + ms) (wn u) lv (pc + 3) ((res u).toList ++ rest)) : zW p l e R s m args below meth c D A nL Q cells slots ws lv pc st :=
  z_callI Z hdg hM cw hn hrest hf (zcut_of mask hm rfl) hst (fun u hu => zW_perm (wn u) (by rw [← hw9 u]; exact zback mask _ _) (kk u hu))
theorem z_callVu {res : Unit → Option Value} {ws' : Unit → va_W} (Z : zC p s m args c cc own Ts nL D ct A) (hdg : decode cc pc = .ok (.invokevirtual ix, 3)) {C9 : String} (ci q0 : Nat) (fs : List Value) (q : vw_C) (hc : vwCl[ci]? = some q) (hq : q.1 = C9) (he : ws[q0]? = some (zO b ci fs)) (hM : zMet l y wsC rm D ct (.ref b :: As) wc (fun _ : Unit => True) res ws' mc ms) (cw : CallW R s args own C9 ix y bytes maxL ret wsC rm mc ms n) (hn : As.length = n) (hrest : (rest.map fun v => v.category).sum ≤ 8) (hf : cells + mc ≤ R.cells ∧ slots + ms ≤ R.slots) (mask : List Bool) (wn : va_W) (st1 : List Value) (hm : zpick mask ws = wc) (hw9 : zmerge mask (ws' ()) (zrest mask ws) = wn) (hst : st = As.reverse ++ .ref b :: rest) (hst1 : (res ()).toList ++ rest = st1)
    (kk : zW p l e R s m args below meth c D A nL Q (cells + mc) (slots + ms) wn lv (pc + 3) st1) : zW p l e R s m args below meth c D A nL Q cells slots ws lv pc st :=
  z_callV Z hdg ci q0 fs q hc hq he hM cw hn hrest hf (zcut_of mask hm rfl) hst (fun _ _ => zW_perm wn (by rw [← hw9]; exact zback mask _ _) (by rw [hst1]; exact kk))
theorem z_callSu {res : Unit → Option Value} {ws' : Unit → va_W} (Z : zC p s m args c cc own Ts nL D ct A) (hdg : decode cc pc = .ok (.invokestatic ix, 3)) (hM : zMet l y wsC rm D ct As wc (fun _ : Unit => True) res ws' mc ms) (cw : CallB R s args own ix y bytes maxL ret wsC rm mc ms n ∧ (Cond.static y).before args s = true) (hn : As.length = n) (hrest : (rest.map fun v => v.category).sum ≤ 8) (hf : cells + mc ≤ R.cells ∧ slots + ms ≤ R.slots) (mask : List Bool) (wn : va_W) (st1 : List Value) (hm : zpick mask ws = wc) (hw9 : zmerge mask (ws' ()) (zrest mask ws) = wn) (hst : st = As.reverse ++ rest) (hst1 : (res ()).toList ++ rest = st1)
    (kk : zW p l e R s m args below meth c D A nL Q (cells + mc) (slots + ms) wn lv (pc + 3) st1) : zW p l e R s m args below meth c D A nL Q cells slots ws lv pc st :=
  z_callS Z hdg hM cw hn hrest hf (zcut_of mask hm rfl) hst (fun _ _ => zW_perm wn (by rw [← hw9]; exact zback mask _ _) (by rw [hst1]; exact kk))
theorem z_callIu {res : Unit → Option Value} {ws' : Unit → va_W} (Z : zC p s m args c cc own Ts nL D ct A) (hdg : decode cc pc = .ok (.invokespecial ix, 3)) (hM : zMet l y wsC rm D ct (.ref b :: As) wc (fun _ : Unit => True) res ws' mc ms) (cw : CallB R s args own ix y bytes maxL none wsC rm mc ms n ∧ y.name = "<init>" ∧ (Cond.instanceMethod y).before args s = true) (hn : As.length = n) (hrest : (rest.map fun v => v.category).sum ≤ 8) (hf : cells + mc ≤ R.cells ∧ slots + ms ≤ R.slots) (mask : List Bool) (wn : va_W) (st1 : List Value) (hm : zpick mask ws = wc) (hw9 : zmerge mask (ws' ()) (zrest mask ws) = wn) (hst : st = As.reverse ++ .ref b :: rest) (hst1 : (res ()).toList ++ rest = st1)
    (kk : zW p l e R s m args below meth c D A nL Q (cells + mc) (slots + ms) wn lv (pc + 3) st1) : zW p l e R s m args below meth c D A nL Q cells slots ws lv pc st :=
  z_callI Z hdg hM cw hn hrest hf (zcut_of mask hm rfl) hst (fun _ _ => zW_perm wn (by rw [← hw9]; exact zback mask _ _) (by rw [hst1]; exact kk))
end ZCALL
