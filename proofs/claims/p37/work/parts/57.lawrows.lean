/-! rows of the law's methods: longs, comparisons, the switch, the script, calls over the whole world -/
theorem zI_and (x : Int32) (n : Nat) (hn : n < 2147483648) : ∃ w : Nat, w ≤ n ∧ x &&& zI ((n : Nat) : Int) = zI ((w : Nat) : Int) := by
  have e : (zI ((n : Nat) : Int)).toBitVec = BitVec.ofNat 32 n := by
    show BitVec.ofInt 32 _ = _
    rw [BitVec.ofInt_natCast]
  refine ⟨(x.toBitVec &&& (zI ((n : Nat) : Int)).toBitVec).toNat, ?_, ?_⟩
  · rw [BitVec.toNat_and, e, BitVec.toNat_ofNat, Nat.mod_eq_of_lt (by omega)]
    exact Nat.and_le_right
  · apply Int32.toBitVec.inj
    rw [Int32.toBitVec_and]
    show _ = BitVec.ofInt 32 _
    rw [BitVec.ofInt_natCast, BitVec.ofNat_toNat, BitVec.setWidth_eq]
/-- the low bits of an int, as a number -/
def anF (x : Int32) (n : Nat) : Nat := (x.toBitVec &&& (zI ((n : Nat) : Int)).toBitVec).toNat
theorem anF_le (x : Int32) {n : Nat} (hn : n < 2147483648) : anF x n ≤ n := by
  have e : (zI ((n : Nat) : Int)).toBitVec = BitVec.ofNat 32 n := by
    show BitVec.ofInt 32 _ = _
    rw [BitVec.ofInt_natCast]
  unfold anF
  rw [BitVec.toNat_and, e, BitVec.toNat_ofNat, Nat.mod_eq_of_lt (by omega)]
  exact Nat.and_le_right
theorem anF_eq (x : Int32) (n : Nat) : x &&& zI ((n : Nat) : Int) = zI ((anF x n : Nat) : Int) := by
  apply Int32.toBitVec.inj
  rw [Int32.toBitVec_and]
  show _ = BitVec.ofInt 32 _
  unfold anF
  rw [BitVec.ofInt_natCast, BitVec.ofNat_toNat, BitVec.setWidth_eq]
/-- the remainder of an int's low 31 bits -/
def upF (x : Int32) (n : Nat) : Nat := anF x 2147483647 % n
theorem upF_lt (x : Int32) {n : Nat} (hn : 0 < n) : upF x n < n := Nat.mod_lt _ hn
/-- an int moved to the right -/
def srF (x : Int32) (n : Int) : Int32 := x >>> (zI n &&& 31)
section ZLAW
variable {p : Program} {l : Launch} {e : Env} {R : Room} {s : State} {m : MethodId} {args : Array Value} {below : List Frame} {meth : Method} {c : Code} {D : va_G} {A : Nat → Prop} {nL : Nat} {Q : State → Prop} {cells slots : Nat} {ws : va_W} {lv : List (Nat × Value)} {pc : Nat} {st : List Value} {cc : ByteArray} {own : String} {Ts : List Cond} {ct : zCT}
theorem z_ishrX {x : Int32} {n : Int} (Z : zC p s m args c cc own Ts nL D ct A) (hdg : decode cc pc = .ok (.ishr, 1))
    (kk : zW p l e R s m args below meth c D A nL Q cells slots ws lv (pc + 1) (.int (srF x n) :: st)) : zW p l e R s m args below meth c D A nL Q cells slots ws lv pc (zi n :: .int x :: st) :=
  fun H locs ls hP hD hS hl => lv_ishr Z.1.1 Z.1.2.1 hdg (kk H locs ls hP hD hS hl)
theorem z_iandX {x : Int32} {n : Nat} (Z : zC p s m args c cc own Ts nL D ct A) (hdg : decode cc pc = .ok (.iand, 1))
    (kk : zW p l e R s m args below meth c D A nL Q cells slots ws lv (pc + 1) (zi ((anF x n : Nat) : Int) :: st)) : zW p l e R s m args below meth c D A nL Q cells slots ws lv pc (zi ((n : Nat) : Int) :: .int x :: st) :=
  fun H locs ls hP hD hS hl => lv_iand Z.1.1 Z.1.2.1 hdg (by rw [anF_eq]; exact kk H locs ls hP hD hS hl)
theorem z_ldc2 {ix : Nat} {v : Int64} (Z : zC p s m args c cc own Ts nL D ct A) (hdg : decode cc pc = .ok (.ldc2_w ix, 3)) (hc : Jvm.Cond.constantLong own ix v ∈ Ts)
    (kk : zW p l e R s m args below meth c D A nL Q cells slots ws lv (pc + 3) (.long v :: st)) : zW p l e R s m args below meth c D A nL Q cells slots ws lv pc st :=
  fun H locs ls hP hD hS hl => lv_ldc2 Z.1.1 Z.1.2.1 Z.1.2.2.2.1 (Z.1.2.2.2.2 _ hc) hdg (kk H locs ls hP hD hS hl)
theorem z_lmul {x y : Int64} (Z : zC p s m args c cc own Ts nL D ct A) (hdg : decode cc pc = .ok (.lmul, 1))
    (kk : zW p l e R s m args below meth c D A nL Q cells slots ws lv (pc + 1) (.long (x * y) :: st)) : zW p l e R s m args below meth c D A nL Q cells slots ws lv pc (.long y :: .long x :: st) :=
  fun H locs ls hP hD hS hl => lv_lmul Z.1.1 Z.1.2.1 hdg (kk H locs ls hP hD hS hl)
theorem z_ladd {x y : Int64} (Z : zC p s m args c cc own Ts nL D ct A) (hdg : decode cc pc = .ok (.ladd, 1))
    (kk : zW p l e R s m args below meth c D A nL Q cells slots ws lv (pc + 1) (.long (x + y) :: st)) : zW p l e R s m args below meth c D A nL Q cells slots ws lv pc (.long y :: .long x :: st) :=
  fun H locs ls hP hD hS hl => lv_ladd Z.1.1 Z.1.2.1 hdg (kk H locs ls hP hD hS hl)
theorem z_lstore_n {k : Fin 4} {x : Int64} (Z : zC p s m args c cc own Ts nL D ct A) (hdg : decode cc pc = .ok (.lstore_n k, 1)) (lv' : List (Nat × Value)) (hn : (k : Nat) + 1 < nL) (hl' : ((k : Nat), Value.long x) :: lv.filter (fun q => !(q.1 == (k : Nat)) && (!(q.1 == (k : Nat) + 1) && !(q.1 + 1 == (k : Nat) && q.2.category == 2))) = lv')
    (kk : zW p l e R s m args below meth c D A nL Q cells slots ws lv' (pc + 1) st) : zW p l e R s m args below meth c D A nL Q cells slots ws lv pc (.long x :: st) :=
  fun H locs ls hP hD hS hl => lv_lstore_n Z.1.1 Z.1.2.1 hdg rfl hl hn hl' (fun ls1 hl1 => kk H locs ls1 hP hD hS hl1)
theorem z_lstore {i : Nat} {x : Int64} (Z : zC p s m args c cc own Ts nL D ct A) (hdg : decode cc pc = .ok (.lstore i, 2)) (lv' : List (Nat × Value)) (hn : i + 1 < nL) (hl' : (i, Value.long x) :: lv.filter (fun q => !(q.1 == i) && (!(q.1 == i + 1) && !(q.1 + 1 == i && q.2.category == 2))) = lv')
    (kk : zW p l e R s m args below meth c D A nL Q cells slots ws lv' (pc + 2) st) : zW p l e R s m args below meth c D A nL Q cells slots ws lv pc (.long x :: st) :=
  fun H locs ls hP hD hS hl => lv_lstore Z.1.1 Z.1.2.1 hdg hl hn hl' (fun ls1 hl1 => kk H locs ls1 hP hD hS hl1)
theorem z_lcmp_eq {x y : Int64} (Z : zC p s m args c cc own Ts nL D ct A) (hdg : decode cc pc = .ok (.lcmp, 1)) (h : x = y)
    (kk : zW p l e R s m args below meth c D A nL Q cells slots ws lv (pc + 1) (zi 0 :: st)) : zW p l e R s m args below meth c D A nL Q cells slots ws lv pc (.long y :: .long x :: st) := by
  subst h
  intro H locs ls hP hD hS hl
  refine W.lcmp Z.1.1 Z.1.2.1 hdg ?_
  rw [show lg_cmp x x = zI 0 from by rw [zI_0]; simp [lg_cmp]]
  exact kk H locs ls hP hD hS hl
theorem z_fcmp0 {x y : UInt32} {op : CmpOp} (Z : zC p s m args c cc own Ts nL D ct A) (hdg : decode cc pc = .ok (.fcmp op, 1)) (h : Op.cmpValue (FP.fcmp x y) op = zI 0)
    (kk : zW p l e R s m args below meth c D A nL Q cells slots ws lv (pc + 1) (zi 0 :: st)) : zW p l e R s m args below meth c D A nL Q cells slots ws lv pc (.float y :: .float x :: st) :=
  fun H locs ls hP hD hS hl => lv_fcmp Z.1.1 Z.1.2.1 hdg (by rw [h]; exact kk H locs ls hP hD hS hl)
theorem z_tableIn {dflt lo hi : Int} {offs : Array Int} {len : Nat} {w off : Int} (Z : zC p s m args c cc own Ts nL D ct A) (tgt : Nat) (hdg : decode cc pc = .ok (.tableswitch dflt lo hi offs, len)) (hw : -2147483648 ≤ w ∧ w < 2147483648) (h1 : lo ≤ w) (h2 : w ≤ hi) (ho : offs[(w - lo).toNat]? = some off) (ht : (pc : Int) + off = (tgt : Int))
    (kk : zW p l e R s m args below meth c D A nL Q cells slots ws lv tgt st) : zW p l e R s m args below meth c D A nL Q cells slots ws lv pc (zi w :: st) :=
  fun H locs ls hP hD hS hl => lv_tableIn Z.1.1 Z.1.2.1 hdg (by rw [zI_toInt hw]; omega) (by rw [zI_toInt hw]; omega) (by rw [zI_toInt hw]; exact ho) ht (kk H locs ls hP hD hS hl)
theorem z_tableOut {dflt lo hi : Int} {offs : Array Int} {len : Nat} {w : Int} (Z : zC p s m args c cc own Ts nL D ct A) (tgt : Nat) (hdg : decode cc pc = .ok (.tableswitch dflt lo hi offs, len)) (hw : -2147483648 ≤ w ∧ w < 2147483648) (h : w < lo ∨ hi < w) (ht : (pc : Int) + dflt = (tgt : Int))
    (kk : zW p l e R s m args below meth c D A nL Q cells slots ws lv tgt st) : zW p l e R s m args below meth c D A nL Q cells slots ws lv pc (zi w :: st) :=
  fun H locs ls hP hD hS hl => lv_tableOut Z.1.1 Z.1.2.1 hdg (by rw [zI_toInt hw]; exact h) ht (kk H locs ls hP hD hS hl)
variable {S : Type} {y : MethodName} {wsC : List Cond} {rm : Room} {As : List Value} {wc : va_W} {post : S → Prop} {res : S → Option Value} {ws' : S → va_W} {mc ms n ix maxL : Nat} {bytes : ByteArray} {ret : Option FieldType} {rest : List Value} {b : Nat}
/-- calls that take the whole world: what comes is a function of what the callee leaves open -/
theorem z_callVw (Z : zC p s m args c cc own Ts nL D ct A) (hdg : decode cc pc = .ok (.invokevirtual ix, 3)) {C9 : String} (ci q0 : Nat) (fs : List Value) (q : vw_C) (hc : vwCl[ci]? = some q) (hq : q.1 = C9) (he : ws[q0]? = some (zO b ci fs)) (hM : zMet l y wsC rm D ct (.ref b :: As) wc post res ws' mc ms) (hw : ws = wc) (cw : CallW R s args own C9 ix y bytes maxL ret wsC rm mc ms n) (hn : As.length = n) (hrest : (rest.map fun v => v.category).sum ≤ 8) (hf : cells + mc ≤ R.cells ∧ slots + ms ≤ R.slots)
    (wn : S → va_W) (st1 : S → List Value) (hwn : ∀ u, ws' u = wn u) (hst : st = As.reverse ++ .ref b :: rest) (hst1 : ∀ u, (res u).toList ++ rest = st1 u)
    (kk : ∀ u, post u → zW p l e R s m args below meth c D A nL Q (cells + mc) (slots + ms) (wn u) lv (pc + 3) (st1 u)) : zW p l e R s m args below meth c D A nL Q cells slots ws lv pc st := by
  subst hw
  exact z_callV (wr := []) Z hdg ci q0 fs q hc hq he hM cw hn hrest hf zt_all hst (fun u hu => by
    rw [List.append_nil, hwn u, hst1 u]; exact kk u hu)
theorem z_callSw (Z : zC p s m args c cc own Ts nL D ct A) (hdg : decode cc pc = .ok (.invokestatic ix, 3)) (hM : zMet l y wsC rm D ct As wc post res ws' mc ms) (hw : ws = wc) (cw : CallB R s args own ix y bytes maxL ret wsC rm mc ms n ∧ (Cond.static y).before args s = true) (hn : As.length = n) (hrest : (rest.map fun v => v.category).sum ≤ 8) (hf : cells + mc ≤ R.cells ∧ slots + ms ≤ R.slots)
    (wn : S → va_W) (st1 : S → List Value) (hwn : ∀ u, ws' u = wn u) (hst : st = As.reverse ++ rest) (hst1 : ∀ u, (res u).toList ++ rest = st1 u)
    (kk : ∀ u, post u → zW p l e R s m args below meth c D A nL Q (cells + mc) (slots + ms) (wn u) lv (pc + 3) (st1 u)) : zW p l e R s m args below meth c D A nL Q cells slots ws lv pc st := by
  subst hw
  exact z_callS (wr := []) Z hdg hM cw hn hrest hf zt_all hst (fun u hu => by
    rw [List.append_nil, hwn u, hst1 u]; exact kk u hu)
/-- a call that takes nothing of the world -/
theorem z_callS0 {res : Unit → Option Value} (Z : zC p s m args c cc own Ts nL D ct A) (hdg : decode cc pc = .ok (.invokestatic ix, 3)) (hM : zMet l y wsC rm D ct As [] (fun _ : Unit => True) res (fun _ => []) mc ms) (cw : CallB R s args own ix y bytes maxL ret wsC rm mc ms n ∧ (Cond.static y).before args s = true) (hn : As.length = n) (hrest : (rest.map fun v => v.category).sum ≤ 8) (hf : cells + mc ≤ R.cells ∧ slots + ms ≤ R.slots)
    (st1 : List Value) (hst : st = As.reverse ++ rest) (hst1 : (res ()).toList ++ rest = st1)
    (kk : zW p l e R s m args below meth c D A nL Q (cells + mc) (slots + ms) ws lv (pc + 3) st1) : zW p l e R s m args below meth c D A nL Q cells slots ws lv pc st :=
  z_callS (wr := ws) Z hdg hM cw hn hrest hf (List.Perm.refl _) hst (fun _ _ => by rw [hst1]; exact kk)
end ZLAW
/-- a method that answers a long -/
theorem zMet_l {l : Launch} {y : MethodName} {wsC wsC' : List Cond} {rm : Room} {D : va_G} {ct : zCT} {As : List Value} {ws : va_W} {S : Type} {post : S → Prop} {ws' : S → va_W} {mc ms : Nat} {cc : ByteArray} {maxL : Nat} {r : S → Int64} (hy : plainName y.cls = true) (hw : wsC = Cond.code y cc maxL (some .long) :: wsC') (hA : (lg_sl As).length ≤ maxL)
    (body : ∀ (p : Program) (e : Env) (s : State) (m : MethodId) (below : List Frame) (meth : Method) (c : Code) (A : Nat → Prop) (Q : State → Prop), zC p s m As.toArray c cc y.cls wsC maxL D ct A → meth.name = y.name →
      (∀ (lv : List (Nat × Value)) (pc : Nat) (u : S), post u → decode cc pc = .ok (.lreturn, 1) → zW p l e rm s m As.toArray below meth c D A maxL Q mc ms (ws' u) lv pc [.long (r u)]) →
      zW p l e rm s m As.toArray below meth c D A maxL Q 0 0 ws (lv_args 0 As) 0 []) : zMet l y wsC rm D ct As ws post (fun u => some (.long (r u))) ws' mc ms := by
  intro sz
  refine Met.ofW (cc := cc) (maxL := maxL) (ret := (some .long)) hy hw ?_
  intro p e s m args below meth c s₁ B hml hv
  obtain ⟨rfl, hsz, hP, hK, hD0⟩ := hv
  have hx := B.exec
  have hb := B.bytes
  have hr := B.returns
  have hts := atoms_spec (ws := wsC) B.pre
  have hown : s.vm.findClass y.cls = some m.cls := findClass_of_methodNamed B.named
  have hnm : meth.name = y.name := (name_of_methodNamed B.named B.method).1
  have hlocks := B.notSynchronized
  subst hsz
  have hD := hD0.self (sz := s.heap.size)
  rw [lg_entry_eq]
  have hl := lv_entry As (n := maxL) hA
  refine body p e s m below meth c (va_A ws s.heap.size) _ ⟨⟨hx, hb, hml, hown, hts⟩, hK, fun q h => Or.inr h⟩ hnm ?_ s.heap [] _ hP hD va_S.rf hl
  intro lv pc u hu hdg H locs ls hP1 hD1 hS1 hl1
  exact W.lret (v := r u) hx hb hr (fun t ht hW => ⟨⟨u, rfl, hu, by rw [ht]; exact hP1, hD1⟩, hS1.F ht⟩) hS1.2.2 hdg
