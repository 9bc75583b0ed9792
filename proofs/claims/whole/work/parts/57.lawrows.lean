/-! rows of the law's body: the script, comparisons, the switch, doubles -/
theorem zI_63 (x : Int32) : ∃ w : Nat, w < 64 ∧ x &&& zI 63 = zI (w : Int) := by
  refine ⟨(x.toBitVec &&& (zI 63).toBitVec).toNat, ?_, ?_⟩
  · rw [BitVec.toNat_and]
    exact Nat.lt_of_le_of_lt Nat.and_le_right (by decide)
  · apply Int32.toBitVec.inj
    rw [Int32.toBitVec_and]
    show _ = BitVec.ofInt 32 _
    rw [BitVec.ofInt_natCast, BitVec.ofNat_toNat, BitVec.setWidth_eq]
section ZLAW
variable {p : Program} {l : Launch} {e : Env} {R : Room} {s : State} {m : MethodId} {args : Array Value} {below : List Frame} {meth : Method} {c : Code} {D : va_G} {A : Nat → Prop} {nL : Nat} {Q : State → Prop} {cells slots : Nat} {ws : va_W} {lv : List (Nat × Value)} {pc : Nat} {st : List Value} {cc : ByteArray} {own : String} {Ts : List Cond} {ct : zCT}
theorem z_sld {b L k : Nat} {xs : Nat → Int32} {i v : Int} (Z : zC p s m args c cc own Ts nL D ct A) (hdg : decode cc pc = .ok (.iaload, 1)) (hX : va_X b L xs s s.heap) (hbl : b < s.heap.size) (hbA : ¬ A b) (hk : i = (k : Int)) (hn : k < L ∧ L < 2147483648) (hx : xs k = zI v)
    (kk : zW p l e R s m args below meth c D A nL Q cells slots ws lv (pc + 1) (zi v :: st)) : zW p l e R s m args below meth c D A nL Q cells slots ws lv pc (zi i :: .ref b :: st) :=
  fun H locs ls hP hD hS hl => va_sld Z.1.1 Z.1.2.1 hX hbl hbA hS (zI_in hk hn.1 hn.2) hdg (by rw [zI_cl hk (Nat.lt_trans hn.1 hn.2), hx]; exact kk H locs ls hP hD hS hl)
theorem z_slen {b L : Nat} {xs : Nat → Int32} (Z : zC p s m args c cc own Ts nL D ct A) (hdg : decode cc pc = .ok (.arraylength, 1)) (hX : va_X b L xs s s.heap) (hbl : b < s.heap.size) (hbA : ¬ A b)
    (kk : zW p l e R s m args below meth c D A nL Q cells slots ws lv (pc + 1) (zi (L : Int) :: st)) : zW p l e R s m args below meth c D A nL Q cells slots ws lv pc (.ref b :: st) :=
  fun H locs ls hP hD hS hl => va_slen Z.1.1 Z.1.2.1 hX hbl hbA hS hdg (by rw [zI_nat]; exact kk H locs ls hP hD hS hl)
theorem z_lcmp_eq {x y : Int64} (Z : zC p s m args c cc own Ts nL D ct A) (hdg : decode cc pc = .ok (.lcmp, 1)) (h : x = y)
    (kk : zW p l e R s m args below meth c D A nL Q cells slots ws lv (pc + 1) (zi 0 :: st)) : zW p l e R s m args below meth c D A nL Q cells slots ws lv pc (.long y :: .long x :: st) := by
  subst h
  intro H locs ls hP hD hS hl
  refine W.lcmp Z.1.1 Z.1.2.1 hdg ?_
  rw [show lg_cmp x x = zI 0 from by rw [zI_0]; simp [lg_cmp]]
  exact kk H locs ls hP hD hS hl
theorem z_icmp_same {x y : Int} {off : Int} (Z : zC p s m args c cc own Ts nL D ct A) (tgt : Nat) (hdg : decode cc pc = .ok (.if_icmp .eq off, 3)) (ht : (pc : Int) + off = (tgt : Int)) (h : x = y)
    (kk : zW p l e R s m args below meth c D A nL Q cells slots ws lv tgt st) : zW p l e R s m args below meth c D A nL Q cells slots ws lv pc (zi y :: zi x :: st) := by
  subst h
  exact fun H locs ls hP hD hS hl => lv_icmp_eq Z.1.1 Z.1.2.1 hdg ht (fun _ => kk H locs ls hP hD hS hl) (fun h => absurd rfl h)
theorem z_tableIn {dflt lo hi : Int} {offs : Array Int} {len : Nat} {w off : Int} (Z : zC p s m args c cc own Ts nL D ct A) (tgt : Nat) (hdg : decode cc pc = .ok (.tableswitch dflt lo hi offs, len)) (hw : -2147483648 ≤ w ∧ w < 2147483648) (h1 : lo ≤ w) (h2 : w ≤ hi) (ho : offs[(w - lo).toNat]? = some off) (ht : (pc : Int) + off = (tgt : Int))
    (kk : zW p l e R s m args below meth c D A nL Q cells slots ws lv tgt st) : zW p l e R s m args below meth c D A nL Q cells slots ws lv pc (zi w :: st) :=
  fun H locs ls hP hD hS hl => lv_tableIn Z.1.1 Z.1.2.1 hdg (by rw [zI_toInt hw]; omega) (by rw [zI_toInt hw]; omega) (by rw [zI_toInt hw]; exact ho) ht (kk H locs ls hP hD hS hl)
theorem z_tableOut {dflt lo hi : Int} {offs : Array Int} {len : Nat} {w : Int} (Z : zC p s m args c cc own Ts nL D ct A) (tgt : Nat) (hdg : decode cc pc = .ok (.tableswitch dflt lo hi offs, len)) (hw : -2147483648 ≤ w ∧ w < 2147483648) (h : w < lo ∨ hi < w) (ht : (pc : Int) + dflt = (tgt : Int))
    (kk : zW p l e R s m args below meth c D A nL Q cells slots ws lv tgt st) : zW p l e R s m args below meth c D A nL Q cells slots ws lv pc (zi w :: st) :=
  fun H locs ls hP hD hS hl => lv_tableOut Z.1.1 Z.1.2.1 hdg (by rw [zI_toInt hw]; exact h) ht (kk H locs ls hP hD hS hl)
theorem z_f2d {x : UInt32} (Z : zC p s m args c cc own Ts nL D ct A) (hdg : decode cc pc = .ok (.f2d, 1)) (hn : vf_n64 (FP.f2d x))
    (kk : zW p l e R s m args below meth c D A nL Q cells slots ws lv (pc + 1) (.double (FP.f2d x) :: st)) : zW p l e R s m args below meth c D A nL Q cells slots ws lv pc (.float x :: st) :=
  fun H locs ls hP hD hS hl => lv_f2d Z.1.1 Z.1.2.1 hdg hn (kk H locs ls hP hD hS hl)
theorem z_dstore {i : Nat} {x : UInt64} (Z : zC p s m args c cc own Ts nL D ct A) (hdg : decode cc pc = .ok (.dstore i, 2)) (lv' : List (Nat × Value)) (hn : i + 1 < nL) (hl' : (i, Value.double x) :: lv.filter (fun q => !(q.1 == i) && (!(q.1 == i + 1) && !(q.1 + 1 == i && q.2.category == 2))) = lv')
    (kk : zW p l e R s m args below meth c D A nL Q cells slots ws lv' (pc + 2) st) : zW p l e R s m args below meth c D A nL Q cells slots ws lv pc (.double x :: st) :=
  fun H locs ls hP hD hS hl => lv_dstore Z.1.1 Z.1.2.1 hdg hl hn hl' (fun ls1 hl1 => kk H locs ls1 hP hD hS hl1)
theorem z_dload {i : Nat} {x : UInt64} (Z : zC p s m args c cc own Ts nL D ct A) (hdg : decode cc pc = .ok (.dload i, 2)) (j : Nat) (hj : lv[j]? = some (i, .double x))
    (kk : zW p l e R s m args below meth c D A nL Q cells slots ws lv (pc + 2) (.double x :: st)) : zW p l e R s m args below meth c D A nL Q cells slots ws lv pc st :=
  fun H locs ls hP hD hS hl => lv_dload Z.1.1 Z.1.2.1 hdg (lv_at hl j hj) (kk H locs ls hP hD hS hl)
theorem z_dcmp0 {x : UInt64} {op : CmpOp} (Z : zC p s m args c cc own Ts nL D ct A) (hdg : decode cc pc = .ok (.dcmp op, 1)) (h : Op.cmpValue (FP.dcmp x x) op = zI 0)
    (kk : zW p l e R s m args below meth c D A nL Q cells slots ws lv (pc + 1) (zi 0 :: st)) : zW p l e R s m args below meth c D A nL Q cells slots ws lv pc (.double x :: .double x :: st) :=
  fun H locs ls hP hD hS hl => lv_dcmp Z.1.1 Z.1.2.1 hdg (by rw [h]; exact kk H locs ls hP hD hS hl)
end ZLAW
theorem f2d_ok {c n : Nat} (hc : c ≤ 40) (h0 : 0 < n) (hn : n ≤ 64) : vf_n64 (FP.f2d (FP.fdiv (FP.i2f (zI ((c : Nat) : Int))) (FP.i2f (zI ((n : Nat) : Int))))) := by
  have : ∀ c, c < 41 → ∀ n, n < 65 → 0 < n → FP.f2d (FP.fdiv (FP.i2f (zI ((c : Nat) : Int))) (FP.i2f (zI ((n : Nat) : Int)))) &&& 0x7fffffffffffffff ≤ 0x7ff0000000000000 := by decide +kernel
  exact this c (by omega) n (by omega) h0
theorem dcm_ok {c n : Nat} (hc : c ≤ 40) (h0 : 0 < n) (hn : n ≤ 64) : Op.cmpValue (FP.dcmp (FP.f2d (FP.fdiv (FP.i2f (zI ((c : Nat) : Int))) (FP.i2f (zI ((n : Nat) : Int))))) (FP.f2d (FP.fdiv (FP.i2f (zI ((c : Nat) : Int))) (FP.i2f (zI ((n : Nat) : Int)))))) .l = zI 0 := by
  have : ∀ c, c < 41 → ∀ n, n < 65 → 0 < n → Op.cmpValue (FP.dcmp (FP.f2d (FP.fdiv (FP.i2f (zI ((c : Nat) : Int))) (FP.i2f (zI ((n : Nat) : Int))))) (FP.f2d (FP.fdiv (FP.i2f (zI ((c : Nat) : Int))) (FP.i2f (zI ((n : Nat) : Int)))))) .l = zI 0 := by decide +kernel
  exact this c (by omega) n (by omega) h0
