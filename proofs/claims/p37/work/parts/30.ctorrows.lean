/-! constructors: rows that make objects, contracts with addresses that come -/
def zNst : List Cond := [.methodLinkNest RX6 33 yX4_init RX6, .methodLinkNest RX3 11 yX0_init RX6, .methodLinkNest RX3 20 yX5_init RX6]
def zN9 (U : State) : Prop := (∀ w ∈ zNst, va_Nw w U) ∧ va_AO RX3 U
theorem zNst_t : ∀ w ∈ zNst, w.onTables = true := by decide +kernel
theorem zN9.to {s U : State} (h : zN9 s) (hW : s.WarmedH U.vm) : zN9 U := by
  refine ⟨fun w hw => ?_, va_AO.moved hW.alike h.2⟩
  have h9 := h.1 w hw
  simp only [zNst, List.mem_cons, List.not_mem_nil, or_false] at hw
  rcases hw with rfl | rfl | rfl <;> exact va_Nw.warmM hW h9
theorem zN9.call {U : State} {g : JFrame} {mk : MethodId} {a : Array Value} (h : zN9 U) : zN9 (U.calling g mk a) :=
  ⟨fun w hw => va_Nw.same (zNst_t w hw) (rfl : U.vm = (U.calling g mk a).vm) (h.1 w hw), va_AO.moved (u := U) (U := U.calling g mk a) (Vm.Alike.refl U.vm) h.2⟩
def zPcN (D : va_G) (ct : zCT) (As : List Value) (ws : va_W) (sz : Nat) : Array Value → State → Prop := va_Pc As (fun U => (U.heap.size = sz ∧ va_P D vwCl ws U.heap ∧ va_K D vwCl (zT ct) U ∧ va_D (fun _ => True) ws) ∧ zN9 U)
theorem zPcN_blind {D : va_G} {ct : zCT} {As : List Value} {ws : va_W} {sz : Nat} : FrameBlind (zPcN D ct As ws sz) := by
  intro a U g mk q
  obtain ⟨q0, ⟨q1, qP, qK, qD⟩, qE⟩ := q
  exact ⟨q0, ⟨q1, qP, va_K.moved (u := U) (U := U.calling g mk a) (Vm.Alike.refl U.vm) qK, qD⟩, qE.call⟩
def zMetN {S : Type} (l : Launch) (y : MethodName) (wsC : List Cond) (rm : Room) (D : va_G) (ct : zCT) (As : List Value) (ws : va_W) (post : S → Prop) (ws' : S → va_W) (mc ms : Nat) : Prop :=
  ∀ sz : Nat, Met l y wsC rm (zPcN D ct As ws sz) (zQ D ct ws post (fun _ => none) ws' sz) mc ms (va_A ws sz)
theorem zMetN_v {l : Launch} {y : MethodName} {wsC wsC' : List Cond} {rm : Room} {D : va_G} {ct : zCT} {As : List Value} {ws : va_W} {S : Type} {post : S → Prop} {ws' : S → va_W} {mc ms : Nat} {cc : ByteArray} {maxL : Nat} (hy : plainName y.cls = true) (hw : wsC = Cond.code y cc maxL none :: wsC') (hA : (lg_sl As).length ≤ maxL)
    (body : ∀ (p : Program) (e : Env) (s : State) (m : MethodId) (below : List Frame) (meth : Method) (c : Code) (A : Nat → Prop) (Q : State → Prop), zC p s m As.toArray c cc y.cls wsC maxL D ct A → meth.name = y.name → zN9 s →
      (∀ (lv : List (Nat × Value)) (pc : Nat) (u : S), post u → decode cc pc = .ok (.return_, 1) → zW p l e rm s m As.toArray below meth c D A maxL Q mc ms (ws' u) lv pc []) →
      zW p l e rm s m As.toArray below meth c D A maxL Q 0 0 ws (lv_args 0 As) 0 []) : zMetN l y wsC rm D ct As ws post ws' mc ms := by
  intro sz
  refine Met.ofW (cc := cc) (maxL := maxL) (ret := none) hy hw ?_
  intro p e s m args below meth c s₁ B hml hv
  obtain ⟨rfl, ⟨hsz, hP, hK, hD0⟩, hE⟩ := hv
  have hx := B.exec
  have hb := B.bytes
  have hr := B.returns
  have hts := atoms_spec (ws := wsC) B.pre
  have hown : s.vm.findClass y.cls = some m.cls := findClass_of_methodNamed B.named
  have hnm : meth.name = y.name := (name_of_methodNamed B.named B.method).1
  have hlocks := B.notSynchronized
  subst hsz
  have hD := hD0.self (sz := s.heap.size)
  rw [lg_entry_eq]
  have hl := lv_entry As (n := maxL) hA
  refine body p e s m below meth c (va_A ws s.heap.size) _ ⟨⟨hx, hb, hml, hown, hts⟩, hK, fun q h => Or.inr h⟩ hnm hE ?_ s.heap [] _ hP hD va_S.rf hl
  intro lv pc u hu hdg H locs ls hP1 hD1 hS1 hl1
  exact W.vret hx hb hr (fun t ht hW => ⟨⟨u, rfl, hu, by rw [ht]; exact hP1, hD1⟩, hS1.F ht⟩) hS1.2.2 hdg
section ZN
variable {p : Program} {l : Launch} {e : Env} {R : Room} {s : State} {m : MethodId} {args : Array Value} {below : List Frame} {meth : Method} {c : Code} {D : va_G} {A : Nat → Prop} {nL : Nat} {Q : State → Prop} {cells slots : Nat} {ws : va_W} {lv : List (Nat × Value)} {pc : Nat} {st : List Value} {cc : ByteArray} {own : String} {Ts : List Cond} {ct : zCT}
theorem z_obj {ix a : Nat} (Z : zC p s m args c cc own Ts nL D ct A) (hdg : decode cc pc = .ok (.invokespecial ix, 3)) (h1 : Cond.methodLink own ix objectInit ∈ Ts) (h2 : Cond.instanceMethod objectInit ∈ Ts) (h3 : Cond.code objectInit ⟨#[0xb1]⟩ 1 none ∈ Ts) (hfr : 1 ≤ R.frames) (hlo : (st.map fun v => v.category).sum + 12 ≤ R.locals)
    (kk : zW p l e R s m args below meth c D A nL Q cells slots ws lv (pc + 3) st) : zW p l e R s m args below meth c D A nL Q cells slots ws lv pc (.ref a :: st) :=
  fun H locs ls hP hD hS hl => W.objInit Z.1.1 Z.1.2.1 Z.1.2.2.2.1 (Z.1.2.2.2.2 _ h1) (Z.1.2.2.2.2 _ h2) (Z.1.2.2.2.2 _ h3) rfl (hl.1.trans Z.1.2.2.1.symm) rfl hdg hfr (by show 2 * 0 + _ + 12 ≤ _; omega) (kk H locs ls hP hD hS hl)
theorem z_new {C : String} {T : u_T} {N ci ix : Nat} {fs : List Value} (Z : zC p s m args c cc own Ts nL D ct A) (hdg : decode cc pc = .ok (.new ix, 3)) (hin : ∀ w ∈ u_ws C T N, w ∈ Ts) (ty : Nat → FieldType) (hty : ∀ k, k < N → parseFieldDescriptor (T k).2.2.1 = some (ty k)) (hcl : Cond.classLink own ix C ∈ Ts) (hinst : Cond.instantiable C N ∈ Ts) (hini : Cond.initialized C ∈ Ts) (hc : vwCl[ci]? = some (C, T, N)) (hfs : ∀ j, j < N → defaultValue (ty j) = vp_V fs j) (hcells : cells + 1 ≤ R.cells) (hslots : slots + N ≤ R.slots) (ws' : Nat → va_W) (hp : ∀ q, (ws ++ [zO q ci fs]).Perm (ws' q))
    (kk : ∀ q : Nat, zW p l e R s m args below meth c D A nL Q (cells + 1) (slots + N) (ws' q) lv (pc + 3) (.ref q :: st)) : zW p l e R s m args below meth c D A nL Q cells slots ws lv pc st :=
  fun H locs ls hP hD hS hl => va_new Z.1.1 Z.1.2.1 Z.1.2.2.2.2 hin ty hty Z.1.2.2.2.1 (Z.1.2.2.2.2 _ hcl) (Z.1.2.2.2.2 _ hinst) (Z.1.2.2.2.2 _ hini) Z.2.1 hP hD hS Z.2.2 hc hfs hcells hslots hdg (fun q H1 hP1 hD1 hS1 => kk q H1 locs ls (zP_perm (hp q) hP1) (zD_perm (hp q) hD1) hS1 hl)
theorem z_newI {n : Nat} {k : Int} (g : Nat → Int) (Z : zC p s m args c cc own Ts nL D ct A) (hdg : decode cc pc = .ok (.newarray .int, 2)) (harr : Cond.arrayClass .int ∈ Ts) (hk : k = (n : Int)) (hn : n < 100000) (hg : ∀ j, zI (g j) = 0) (hcells : cells + 1 ≤ R.cells) (hslots : slots + n ≤ R.slots) (ws' : Nat → va_W) (hp : ∀ q, (ws ++ [zAI ct q n g]).Perm (ws' q))
    (kk : ∀ q : Nat, zW p l e R s m args below meth c D A nL Q (cells + 1) (slots + n) (ws' q) lv (pc + 2) (.ref q :: st)) : zW p l e R s m args below meth c D A nL Q cells slots ws lv pc (zi k :: st) := by
  intro H locs ls hP hD hS hl
  have hneg : ¬ zI k < 0 := by
    rw [← zI_0, zI_lt ⟨by omega, by omega⟩ ⟨by omega, by omega⟩]; omega
  refine va_newa (ty := .int) (a0 := (n, .inl (zF g))) (atype := .int) Z.1.1 Z.1.2.1 (Z.1.2.2.2.2 _ harr) rfl Z.2.1 hP hD hS Z.2.2 (fun cA => ?_) hneg (zI_cl hk (by omega)) (by show n * 4 ≤ _; omega) hcells hslots hdg (fun q cA H1 hK1 hP1 hD1 hS1 => ?_)
  · rw [vp_cell_i]
    congr 1
    funext j
    show Value.int (zI (g j)) = .int 0
    rw [hg j]
  · have h1 := (hK1.2 3 (cA, .int) (by show (zT ct ++ [(cA, FieldType.int)])[3]? = _; rfl)).2
    have h2 := (Z.2.1.2 0 (ct.1, .int) rfl).2
    have h3 : cA = ct.1 := Option.some.inj (h1.symm.trans h2)
    subst h3
    exact kk q H1 locs ls (zP_perm (hp q) hP1) (zD_perm (hp q) hD1) hS1 hl
theorem z_newZ {n : Nat} {k : Int} (g : Nat → Int) (Z : zC p s m args c cc own Ts nL D ct A) (hdg : decode cc pc = .ok (.newarray .boolean, 2)) (harr : Cond.arrayClass .boolean ∈ Ts) (hk : k = (n : Int)) (hn : n < 100000) (hg : ∀ j, zI (g j) = 0) (hcells : cells + 1 ≤ R.cells) (hslots : slots + n ≤ R.slots) (ws' : Nat → va_W) (hp : ∀ q, (ws ++ [zAZ ct q n g]).Perm (ws' q))
    (kk : ∀ q : Nat, zW p l e R s m args below meth c D A nL Q (cells + 1) (slots + n) (ws' q) lv (pc + 2) (.ref q :: st)) : zW p l e R s m args below meth c D A nL Q cells slots ws lv pc (zi k :: st) := by
  intro H locs ls hP hD hS hl
  have hneg : ¬ zI k < 0 := by
    rw [← zI_0, zI_lt ⟨by omega, by omega⟩ ⟨by omega, by omega⟩]; omega
  refine va_newa (ty := .boolean) (a0 := (n, .inl (zF g))) (atype := .boolean) Z.1.1 Z.1.2.1 (Z.1.2.2.2.2 _ harr) rfl Z.2.1 hP hD hS Z.2.2 (fun cA => ?_) hneg (zI_cl hk (by omega)) (by show n * 1 ≤ _; omega) hcells hslots hdg (fun q cA H1 hK1 hP1 hD1 hS1 => ?_)
  · rw [vp_cell_i]
    congr 1
    funext j
    show Value.int (zI (g j)) = .int 0
    rw [hg j]
  · have h1 := (hK1.2 3 (cA, .boolean) (by show (zT ct ++ [(cA, FieldType.boolean)])[3]? = _; rfl)).2
    have h2 := (Z.2.1.2 1 (ct.2.1, .boolean) rfl).2
    have h3 : cA = ct.2.1 := Option.some.inj (h1.symm.trans h2)
    subst h3
    exact kk q H1 locs ls (zP_perm (hp q) hP1) (zD_perm (hp q) hD1) hS1 hl
theorem z_newS {n ix : Nat} {k : Int} (Z : zC p s m args c cc own Ts nL D ct A) (hN : zN9 s) (hdg : decode cc pc = .ok (.anewarray ix, 3)) (hcl : Cond.classLink own ix RX3 ∈ Ts) (hk : k = (n : Int)) (hn : n < 100000) (hcells : cells + 1 ≤ R.cells) (hslots : slots + n ≤ R.slots) (ws' : Nat → va_W) (hp : ∀ q, (ws ++ [zAS ct q n (fun _ => none)]).Perm (ws' q))
    (kk : ∀ q : Nat, zW p l e R s m args below meth c D A nL Q (cells + 1) (slots + n) (ws' q) lv (pc + 3) (.ref q :: st)) : zW p l e R s m args below meth c D A nL Q cells slots ws lv pc (zi k :: st) := by
  intro H locs ls hP hD hS hl
  have hneg : ¬ zI k < 0 := by
    rw [← zI_0, zI_lt ⟨by omega, by omega⟩ ⟨by omega, by omega⟩]; omega
  refine va_newq Z.1.1 Z.1.2.1 Z.1.2.2.2.1 (Z.1.2.2.2.2 _ hcl) hN.2 Z.2.1 hP hD hS Z.2.2 hneg (zI_cl hk (by omega)) (by omega) hcells hslots hdg (fun q cA H1 hK1 hP1 hD1 hS1 => ?_)
  have h1 := (hK1.2 3 (cA, .object RX3) (by show (zT ct ++ [(cA, FieldType.object RX3)])[3]? = _; rfl)).2
  have h2 := (Z.2.1.2 2 (ct.2.2, .object RX3) rfl).2
  obtain ⟨-, -, -, -, -, h3⟩ := h1
  obtain ⟨-, -, -, -, -, h4⟩ := h2
  have h5 : cA = ct.2.2 := Option.some.inj (h3.symm.trans h4)
  subst h5
  exact kk q H1 locs ls (zP_perm (hp q) hP1) (zD_perm (hp q) hD1) hS1 hl
theorem z_aast {a n v k : Nat} {vs : List Value} {f : Nat → Option Nat} {i : Int} (Z : zC p s m args c cc own Ts nL D ct A) (hdg : decode cc pc = .ok (.aastore, 1)) (q0 qk : Nat) (ha : ws[q0]? = some (zAS ct a n f)) (hv : ws[qk]? = some (zO v 2 vs)) (hk : i = (k : Int)) (hn : k < n ∧ n < 2147483648) (ws' : va_W) (hw : ws.set q0 (zAS ct a n (zU f k (some v))) = ws')
    (kk : zW p l e R s m args below meth c D A nL Q cells slots ws' lv (pc + 1) st) : zW p l e R s m args below meth c D A nL Q cells slots ws lv pc (.ref v :: zi i :: .ref a :: st) :=
  fun H locs ls hP hD hS hl => va_astq (r := (RX3, TX3, 4)) Z.1.1 Z.1.2.1 Z.2.1 hP hD hS q0 2 qk 2 ha rfl hv rfl (zI_in hk hn.1 hn.2) hdg (fun H1 locs1 hP1 hD1 hS1 => by
    rw [zI_cl hk (Nat.lt_trans hn.1 hn.2)] at hP1 hD1
    subst hw
    exact kk H1 locs1 ls hP1 hD1 hS1 hl)
variable {S : Type} {y : MethodName} {wsC : List Cond} {rm : Room} {As : List Value} {wc wr : va_W} {post : S → Prop} {ws' : S → va_W} {mc ms n ix maxL : Nat} {bytes : ByteArray} {rest : List Value} {b : Nat} {host : String}
theorem z_preN (Z : zC p s m args c cc own Ts nL D ct A) (hE : zN9 s) {H : Heap} {As9 : List Value} (hp : ws.Perm (wc ++ wr)) (hP : va_P D vwCl ws H) (hD : va_D A ws) : ∀ U : State, U.heap = H → s.WarmedH U.vm → zPcN D ct As9 wc H.size As9.toArray U :=
  fun U hU hW => ⟨rfl, ⟨by rw [hU], by rw [hU]; exact zP_l (zP_perm hp hP), va_K.moved hW.alike Z.2.1, (zD_l (zD_perm hp hD)).weaken (fun _ _ _ _ => trivial)⟩, hE.to hW⟩
theorem z_ctor (Z : zC p s m args c cc own Ts nL D ct A) (hE : zN9 s) (hdg : decode cc pc = .ok (.invokespecial ix, 3)) (hM : zMetN l y wsC rm D ct (.ref b :: As) wc post ws' mc ms) (cw : CallB R s args own ix y bytes maxL none wsC rm mc ms n ∧ y.name = "<init>" ∧ (Cond.instanceMethod y).before args s = true) (hn : As.length = n) (hrest : (rest.map fun v => v.category).sum ≤ 8) (hf : cells + mc ≤ R.cells ∧ slots + ms ≤ R.slots) (hp : ws.Perm (wc ++ wr)) (wn : S → va_W) (hpn : ∀ u, (ws' u ++ wr).Perm (wn u)) (hst : st = As.reverse ++ .ref b :: rest)
    (kk : ∀ u, post u → zW p l e R s m args below meth c D A nL Q (cells + mc) (slots + ms) (wn u) lv (pc + 3) rest) : zW p l e R s m args below meth c D A nL Q cells slots ws lv pc st := by
  intro H locs ls hP hD hS hl
  subst hst
  exact z_ran Z.2.2 hp hP hD hS (va_runI (rest := rest) Z.1 (hM H.size) cw ⟨zPcN_blind, z_preN Z hE hp hP hD⟩ rfl hn hl.1 rfl (lv_room hrest) hdg hf) hl (fun u hu => zW_perm (wn u) (hpn u) (kk u hu))
theorem z_ctorN (Z : zC p s m args c cc own Ts nL D ct A) (hE : zN9 s) (hdg : decode cc pc = .ok (.invokespecial ix, 3)) (hM : zMetN l y wsC rm D ct (.ref b :: As) wc post ws' mc ms) (cw : va_CN R s args own ix y host bytes maxL none wsC rm mc ms n ∧ y.name = "<init>" ∧ (Cond.instanceMethod y).before args s = true) (hn : As.length = n) (hrest : (rest.map fun v => v.category).sum ≤ 8) (hf : cells + mc ≤ R.cells ∧ slots + ms ≤ R.slots) (hp : ws.Perm (wc ++ wr)) (wn : S → va_W) (hpn : ∀ u, (ws' u ++ wr).Perm (wn u)) (hst : st = As.reverse ++ .ref b :: rest)
    (kk : ∀ u, post u → zW p l e R s m args below meth c D A nL Q (cells + mc) (slots + ms) (wn u) lv (pc + 3) rest) : zW p l e R s m args below meth c D A nL Q cells slots ws lv pc st := by
  intro H locs ls hP hD hS hl
  subst hst
  exact z_ran Z.2.2 hp hP hD hS (va_runIN (rest := rest) Z.1 (hM H.size) cw ⟨zPcN_blind, z_preN Z hE hp hP hD⟩ rfl hn hl.1 rfl (lv_room hrest) hdg hf) hl (fun u hu => zW_perm (wn u) (hpn u) (kk u hu))
end ZN
