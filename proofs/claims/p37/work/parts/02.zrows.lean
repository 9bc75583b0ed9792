/-! the layer zW: world, locals, stack as data; heap, frame record and array of locals are hidden. Ints as zI of an integer. -/
def zI (z : Int) : Int32 := Int32.ofInt z
def zF (g : Nat → Int) : Nat → Int32 := fun k => zI (g k)
def zU {α : Type} (g : Nat → α) (k : Nat) (v : α) : Nat → α := fun j => if j = k then v else g j
theorem zU_s {α : Type} (g : Nat → α) (k : Nat) (v : α) : zU g k v k = v := if_pos rfl
theorem zU_n {α : Type} (g : Nat → α) {k j : Nat} (v : α) (h : j ≠ k) : zU g k v j = g j := if_neg h
theorem zI_toInt {z : Int} (h : -2147483648 ≤ z ∧ z < 2147483648) : (zI z).toInt = z := Int32.toInt_ofInt_of_le (by omega) (by omega)
theorem zI_add (a b : Int) : zI a + zI b = zI (a + b) := (Int32.ofInt_add a b).symm
theorem zI_sub (a b : Int) : zI a - zI b = zI (a - b) := (Int32.ofInt_sub a b).symm
theorem zI_mul (a b : Int) : zI a * zI b = zI (a * b) := (Int32.ofInt_mul a b).symm
theorem zI_le {a b : Int} (ha : -2147483648 ≤ a ∧ a < 2147483648) (hb : -2147483648 ≤ b ∧ b < 2147483648) : zI a ≤ zI b ↔ a ≤ b := by rw [Int32.le_iff_toInt_le, zI_toInt ha, zI_toInt hb]
theorem zI_lt {a b : Int} (ha : -2147483648 ≤ a ∧ a < 2147483648) (hb : -2147483648 ≤ b ∧ b < 2147483648) : zI a < zI b ↔ a < b := by rw [Int32.lt_iff_toInt_lt, zI_toInt ha, zI_toInt hb]
theorem zI_eq {a b : Int} (ha : -2147483648 ≤ a ∧ a < 2147483648) (hb : -2147483648 ≤ b ∧ b < 2147483648) : zI a = zI b ↔ a = b := by rw [← Int32.toInt_inj, zI_toInt ha, zI_toInt hb]
theorem zI_0 : zI 0 = 0 := rfl
theorem zI_of (x : Int32) : x = zI x.toInt ∧ -2147483648 ≤ x.toInt ∧ x.toInt < 2147483648 := by
  refine ⟨(Int32.ofInt_toInt x).symm, ?_, ?_⟩
  · have := Int32.le_toInt x; omega
  · have := Int32.toInt_lt x; omega
theorem zI_cl {i : Int} {k : Nat} (h : i = (k : Int)) (hk : k < 2147483648) : (zI i).toNatClampNeg = k := by
  subst h
  have h1 : (zI (k : Int)).toNatClampNeg = ((k : Int)).toNat := Int32.toNatClampNeg_ofInt_of_le (by omega) (by omega)
  rw [h1]; exact Int.toNat_natCast k
theorem zI_in {i : Int} {k n : Nat} (h : i = (k : Int)) (hk : k < n) (hn : n < 2147483648) : vp_in (zI i) n := by
  subst h
  rw [vp_in_iff, zI_toInt ⟨by omega, by omega⟩]
  omega
theorem zI_nat (n : Nat) : Int32.ofNat n = zI (n : Int) := (Int32.ofInt_eq_ofNat (n := n)).symm
theorem zI_div {a b : Int} (ha : 0 ≤ a ∧ a < 2147483648) (hb : 0 < b ∧ b < 2147483648) : zI a / zI b = zI (a / b) := by
  apply Int32.toInt_inj.mp
  have h1 : (zI b) ≠ -1 := by
    intro h
    have : (zI b).toInt = (-1 : Int32).toInt := by rw [h]
    rw [zI_toInt ⟨by omega, by omega⟩, show (-1 : Int32).toInt = -1 from rfl] at this
    omega
  have h0 : 0 ≤ a / b := Int.ediv_nonneg ha.1 (by omega)
  have h2 : a / b ≤ a := Int.ediv_le_self b ha.1
  rw [Int32.toInt_div_of_ne_right _ _ h1, zI_toInt ⟨by omega, by omega⟩, zI_toInt ⟨by omega, by omega⟩, zI_toInt ⟨by omega, by omega⟩]
  exact Int.tdiv_eq_ediv_of_nonneg ha.1
theorem zI_rem {a b : Int} (ha : 0 ≤ a ∧ a < 2147483648) (hb : 0 < b ∧ b < 2147483648) : zI a - zI a / zI b * zI b = zI (a % b) := by
  rw [zI_div ha hb, zI_mul, zI_sub]
  congr 1
  have := Int.emod_def a b
  rw [this, Int.mul_comm]
theorem zF_upd (g : Nat → Int) {i : Int} {k : Nat} (v : Int) (h : i = (k : Int)) (hk : k < 2147483648) : upd (zF g) (zI i).toNatClampNeg (zI v) = zF (zU g k v) := by
  rw [zI_cl h hk]
  funext j
  unfold upd zF zU
  by_cases hj : j = k
  · rw [if_pos hj, if_pos hj]
  · rw [if_neg hj, if_neg hj]
abbrev zCT : Type := ClassId × ClassId × ClassId
/-- the classes of the arrays: int, boolean, State -/
def zT (ct : zCT) : List (ClassId × FieldType) := [(ct.1, .int), (ct.2.1, .boolean), (ct.2.2, .object RX3)]
abbrev zAI (ct : zCT) (a n : Nat) (g : Nat → Int) : Nat × va_E := (a, .inl (ct.1, n, .inl (zF g)))
abbrev zAZ (ct : zCT) (a n : Nat) (g : Nat → Int) : Nat × va_E := (a, .inl (ct.2.1, n, .inl (zF g)))
abbrev zAS (ct : zCT) (a n : Nat) (f : Nat → Option Nat) : Nat × va_E := (a, .inl (ct.2.2, n, .inr (.inr (.inr (.inr f)))))
abbrev zO (a ci : Nat) (fs : List Value) : Nat × va_E := (a, .inr (ci, fs))
abbrev zi (z : Int) : Value := .int (zI z)
/-- arrays of natural numbers; truth as a number -/
def zN (f : Nat → Nat) : Nat → Int := fun k => (f k : Int)
theorem zN_U (f : Nat → Nat) (k v : Nat) : zU (zN f) k (v : Int) = zN (zU f k v) := by
  funext j
  show (if j = k then (v : Int) else ((f j : Nat) : Int)) = (((if j = k then v else f j) : Nat) : Int)
  by_cases h : j = k
  · rw [if_pos h, if_pos h]
  · rw [if_neg h, if_neg h]
def zb (b : Bool) : Int := if b = true then 1 else 0
theorem zb_t : zb true = 1 := rfl
theorem zb_f : zb false = 0 := rfl
theorem zb_n (b : Bool) : narrow .boolean (zi (zb b)) = zi (zb b) := by cases b <;> rfl
theorem zb_1 {b : Bool} (h : b = true) : (1 : Int) = zb b := by rw [h]; rfl
theorem zb_0 {b : Bool} (h : b = false) : (0 : Int) = zb b := by rw [h]; rfl
theorem zb_p {P : Prop} (i : Decidable P) (h : P) : (1 : Int) = zb (decide P) := zb_1 (decide_eq_true h)
theorem zb_np {P : Prop} (i : Decidable P) (h : ¬ P) : (0 : Int) = zb (decide P) := zb_0 (decide_eq_false h)
/-- what stands all through a method: the machine, the code, the words, the classes, the cells that may change -/
def zC (p : Program) (s : State) (m : MethodId) (args : Array Value) (c : Code) (cc : ByteArray) (own : String) (Ts : List Cond) (nL : Nat) (D : va_G) (ct : zCT) (A : Nat → Prop) : Prop :=
  CallFix p m c cc nL s args Ts own ∧ va_K D vwCl (zT ct) s ∧ ∀ q : Nat, s.heap.size ≤ q → A q
def zW (p : Program) (l : Launch) (e : Env) (R : Room) (s : State) (m : MethodId) (args : Array Value) (below : List Frame) (meth : Method) (c : Code) (D : va_G) (A : Nat → Prop) (nL : Nat) (Q : State → Prop) (cells slots : Nat) (ws : va_W) (lv : List (Nat × Value)) (pc : Nat) (st : List Value) : Prop :=
  ∀ (H : Heap) (locs : List Loc) (ls : Array Slot), va_P D vwCl ws H → va_D A ws → va_S A s.heap H locs → lv_has ls nL lv → W p l e R s m args below meth c H locs cells slots Q (F0 m pc ls st)
section ZL
variable {p : Program} {l : Launch} {e : Env} {R : Room} {s : State} {m : MethodId} {args : Array Value} {below : List Frame} {meth : Method} {c : Code} {D : va_G} {A : Nat → Prop} {nL : Nat} {Q : State → Prop} {cells slots : Nat} {ws : va_W} {lv : List (Nat × Value)} {pc : Nat} {st : List Value} {cc : ByteArray} {own : String} {Ts : List Cond} {ct : zCT}
theorem z_iconst {n v : Int} (Z : zC p s m args c cc own Ts nL D ct A) (hdg : decode cc pc = .ok (.iconst n, 1)) (hv : Int32.ofInt n = zI v)
    (kk : zW p l e R s m args below meth c D A nL Q cells slots ws lv (pc + 1) (zi v :: st)) : zW p l e R s m args below meth c D A nL Q cells slots ws lv pc st :=
  fun H locs ls hP hD hS hl => lv_iconst Z.1.1 Z.1.2.1 hdg hv (kk H locs ls hP hD hS hl)
theorem z_bipush {n v : Int} (Z : zC p s m args c cc own Ts nL D ct A) (hdg : decode cc pc = .ok (.bipush n, 2)) (hv : (Int8.ofInt n).toInt32 = zI v)
    (kk : zW p l e R s m args below meth c D A nL Q cells slots ws lv (pc + 2) (zi v :: st)) : zW p l e R s m args below meth c D A nL Q cells slots ws lv pc st :=
  fun H locs ls hP hD hS hl => lv_bipush Z.1.1 Z.1.2.1 hdg hv (kk H locs ls hP hD hS hl)
theorem z_sipush {n v : Int} (Z : zC p s m args c cc own Ts nL D ct A) (hdg : decode cc pc = .ok (.sipush n, 3)) (hv : (Int16.ofInt n).toInt32 = zI v)
    (kk : zW p l e R s m args below meth c D A nL Q cells slots ws lv (pc + 3) (zi v :: st)) : zW p l e R s m args below meth c D A nL Q cells slots ws lv pc st :=
  fun H locs ls hP hD hS hl => lv_sipush Z.1.1 Z.1.2.1 hdg hv (kk H locs ls hP hD hS hl)
theorem z_ldc {ix : Nat} {v : Int} (Z : zC p s m args c cc own Ts nL D ct A) (hdg : decode cc pc = .ok (.ldc ix, 2)) (hc : (Jvm.Cond.constant own ix (zI v)) ∈ Ts)
    (kk : zW p l e R s m args below meth c D A nL Q cells slots ws lv (pc + 2) (zi v :: st)) : zW p l e R s m args below meth c D A nL Q cells slots ws lv pc st :=
  fun H locs ls hP hD hS hl => lv_ldc Z.1.1 Z.1.2.1 Z.1.2.2.2.1 (Z.1.2.2.2.2 _ hc) hdg (kk H locs ls hP hD hS hl)
theorem z_ldcw {ix : Nat} {v : Int} (Z : zC p s m args c cc own Ts nL D ct A) (hdg : decode cc pc = .ok (.ldc_w ix, 3)) (hc : (Jvm.Cond.constant own ix (zI v)) ∈ Ts)
    (kk : zW p l e R s m args below meth c D A nL Q cells slots ws lv (pc + 3) (zi v :: st)) : zW p l e R s m args below meth c D A nL Q cells slots ws lv pc st :=
  fun H locs ls hP hD hS hl => lv_ldcw Z.1.1 Z.1.2.1 Z.1.2.2.2.1 (Z.1.2.2.2.2 _ hc) hdg (kk H locs ls hP hD hS hl)
theorem z_iload_n {k : Fin 4} {x : Int32} (Z : zC p s m args c cc own Ts nL D ct A) (hdg : decode cc pc = .ok (.iload_n k, 1)) (j : Nat) (hj : lv[j]? = some ((k : Nat), .int x))
    (kk : zW p l e R s m args below meth c D A nL Q cells slots ws lv (pc + 1) (.int x :: st)) : zW p l e R s m args below meth c D A nL Q cells slots ws lv pc st :=
  fun H locs ls hP hD hS hl => lv_iload_n Z.1.1 Z.1.2.1 hdg rfl (lv_at hl j hj) (kk H locs ls hP hD hS hl)
theorem z_iload {i : Nat} {x : Int32} (Z : zC p s m args c cc own Ts nL D ct A) (hdg : decode cc pc = .ok (.iload i, 2)) (j : Nat) (hj : lv[j]? = some (i, .int x))
    (kk : zW p l e R s m args below meth c D A nL Q cells slots ws lv (pc + 2) (.int x :: st)) : zW p l e R s m args below meth c D A nL Q cells slots ws lv pc st :=
  fun H locs ls hP hD hS hl => lv_iload Z.1.1 Z.1.2.1 hdg (lv_at hl j hj) (kk H locs ls hP hD hS hl)
theorem z_aload_n {k : Fin 4} {x : Nat} (Z : zC p s m args c cc own Ts nL D ct A) (hdg : decode cc pc = .ok (.aload_n k, 1)) (j : Nat) (hj : lv[j]? = some ((k : Nat), .ref x))
    (kk : zW p l e R s m args below meth c D A nL Q cells slots ws lv (pc + 1) (.ref x :: st)) : zW p l e R s m args below meth c D A nL Q cells slots ws lv pc st :=
  fun H locs ls hP hD hS hl => lv_aload_n Z.1.1 Z.1.2.1 hdg rfl (lv_at hl j hj) (kk H locs ls hP hD hS hl)
theorem z_aload {i : Nat} {x : Nat} (Z : zC p s m args c cc own Ts nL D ct A) (hdg : decode cc pc = .ok (.aload i, 2)) (j : Nat) (hj : lv[j]? = some (i, .ref x))
    (kk : zW p l e R s m args below meth c D A nL Q cells slots ws lv (pc + 2) (.ref x :: st)) : zW p l e R s m args below meth c D A nL Q cells slots ws lv pc st :=
  fun H locs ls hP hD hS hl => lv_aload Z.1.1 Z.1.2.1 hdg (lv_at hl j hj) (kk H locs ls hP hD hS hl)
theorem z_lload_n {k : Fin 4} {x : Int64} (Z : zC p s m args c cc own Ts nL D ct A) (hdg : decode cc pc = .ok (.lload_n k, 1)) (j : Nat) (hj : lv[j]? = some ((k : Nat), .long x))
    (kk : zW p l e R s m args below meth c D A nL Q cells slots ws lv (pc + 1) (.long x :: st)) : zW p l e R s m args below meth c D A nL Q cells slots ws lv pc st :=
  fun H locs ls hP hD hS hl => lv_lload_n Z.1.1 Z.1.2.1 hdg rfl (lv_at hl j hj) (kk H locs ls hP hD hS hl)
theorem z_lload {i : Nat} {x : Int64} (Z : zC p s m args c cc own Ts nL D ct A) (hdg : decode cc pc = .ok (.lload i, 2)) (j : Nat) (hj : lv[j]? = some (i, .long x))
    (kk : zW p l e R s m args below meth c D A nL Q cells slots ws lv (pc + 2) (.long x :: st)) : zW p l e R s m args below meth c D A nL Q cells slots ws lv pc st :=
  fun H locs ls hP hD hS hl => lv_lload Z.1.1 Z.1.2.1 hdg (lv_at hl j hj) (kk H locs ls hP hD hS hl)
theorem z_istore_n {k : Fin 4} {x : Int32} (Z : zC p s m args c cc own Ts nL D ct A) (hdg : decode cc pc = .ok (.istore_n k, 1)) (lv' : List (Nat × Value)) (hn : (k : Nat) < nL) (hl' : ((k : Nat), Value.int x) :: lv.filter (fun q => !(q.1 == (k : Nat)) && !(q.1 + 1 == (k : Nat) && q.2.category == 2)) = lv')
    (kk : zW p l e R s m args below meth c D A nL Q cells slots ws lv' (pc + 1) st) : zW p l e R s m args below meth c D A nL Q cells slots ws lv pc (.int x :: st) :=
  fun H locs ls hP hD hS hl => lv_istore_n Z.1.1 Z.1.2.1 hdg rfl hl hn hl' (fun ls1 hl1 => kk H locs ls1 hP hD hS hl1)
theorem z_istore {i : Nat} {x : Int32} (Z : zC p s m args c cc own Ts nL D ct A) (hdg : decode cc pc = .ok (.istore i, 2)) (lv' : List (Nat × Value)) (hn : i < nL) (hl' : (i, Value.int x) :: lv.filter (fun q => !(q.1 == i) && !(q.1 + 1 == i && q.2.category == 2)) = lv')
    (kk : zW p l e R s m args below meth c D A nL Q cells slots ws lv' (pc + 2) st) : zW p l e R s m args below meth c D A nL Q cells slots ws lv pc (.int x :: st) :=
  fun H locs ls hP hD hS hl => lv_istore Z.1.1 Z.1.2.1 hdg hl hn hl' (fun ls1 hl1 => kk H locs ls1 hP hD hS hl1)
theorem z_astore_n {k : Fin 4} {x : Nat} (Z : zC p s m args c cc own Ts nL D ct A) (hdg : decode cc pc = .ok (.astore_n k, 1)) (lv' : List (Nat × Value)) (hn : (k : Nat) < nL) (hl' : ((k : Nat), Value.ref x) :: lv.filter (fun q => !(q.1 == (k : Nat)) && !(q.1 + 1 == (k : Nat) && q.2.category == 2)) = lv')
    (kk : zW p l e R s m args below meth c D A nL Q cells slots ws lv' (pc + 1) st) : zW p l e R s m args below meth c D A nL Q cells slots ws lv pc (.ref x :: st) :=
  fun H locs ls hP hD hS hl => lv_astore_n Z.1.1 Z.1.2.1 hdg rfl hl hn hl' (fun ls1 hl1 => kk H locs ls1 hP hD hS hl1)
theorem z_astore {i : Nat} {x : Nat} (Z : zC p s m args c cc own Ts nL D ct A) (hdg : decode cc pc = .ok (.astore i, 2)) (lv' : List (Nat × Value)) (hn : i < nL) (hl' : (i, Value.ref x) :: lv.filter (fun q => !(q.1 == i) && !(q.1 + 1 == i && q.2.category == 2)) = lv')
    (kk : zW p l e R s m args below meth c D A nL Q cells slots ws lv' (pc + 2) st) : zW p l e R s m args below meth c D A nL Q cells slots ws lv pc (.ref x :: st) :=
  fun H locs ls hP hD hS hl => lv_astore Z.1.1 Z.1.2.1 hdg hl hn hl' (fun ls1 hl1 => kk H locs ls1 hP hD hS hl1)
theorem z_iinc {i : Nat} {n x v : Int} (Z : zC p s m args c cc own Ts nL D ct A) (hdg : decode cc pc = .ok (.iinc i n, 3)) (j : Nat) (lv' : List (Nat × Value)) (hj : lv[j]? = some (i, zi x)) (hv : x + n = v) (hn : i < nL) (hl' : (i, zi v) :: lv.filter (fun q => !(q.1 == i) && !(q.1 + 1 == i && q.2.category == 2)) = lv')
    (kk : zW p l e R s m args below meth c D A nL Q cells slots ws lv' (pc + 3) st) : zW p l e R s m args below meth c D A nL Q cells slots ws lv pc st :=
  fun H locs ls hP hD hS hl => lv_iinc Z.1.1 Z.1.2.1 hdg hl hj (by rw [← hv]; exact zI_add x n) hn hl' (fun ls1 hl1 => kk H locs ls1 hP hD hS hl1)
theorem z_iadd {x y : Int} (Z : zC p s m args c cc own Ts nL D ct A) (hdg : decode cc pc = .ok (.iadd, 1)) 
    (kk : zW p l e R s m args below meth c D A nL Q cells slots ws lv (pc + 1) (zi (x + y) :: st)) : zW p l e R s m args below meth c D A nL Q cells slots ws lv pc (zi y :: zi x :: st) :=
  fun H locs ls hP hD hS hl => lv_iadd Z.1.1 Z.1.2.1 hdg (by rw [zI_add]; exact kk H locs ls hP hD hS hl)
theorem z_isub {x y : Int} (Z : zC p s m args c cc own Ts nL D ct A) (hdg : decode cc pc = .ok (.isub, 1)) 
    (kk : zW p l e R s m args below meth c D A nL Q cells slots ws lv (pc + 1) (zi (x - y) :: st)) : zW p l e R s m args below meth c D A nL Q cells slots ws lv pc (zi y :: zi x :: st) :=
  fun H locs ls hP hD hS hl => lv_isub Z.1.1 Z.1.2.1 hdg (by rw [zI_sub]; exact kk H locs ls hP hD hS hl)
theorem z_imul {x y : Int} (Z : zC p s m args c cc own Ts nL D ct A) (hdg : decode cc pc = .ok (.imul, 1)) 
    (kk : zW p l e R s m args below meth c D A nL Q cells slots ws lv (pc + 1) (zi (x * y) :: st)) : zW p l e R s m args below meth c D A nL Q cells slots ws lv pc (zi y :: zi x :: st) :=
  fun H locs ls hP hD hS hl => lv_imul Z.1.1 Z.1.2.1 hdg (by rw [zI_mul]; exact kk H locs ls hP hD hS hl)
theorem z_idiv {x y : Int} (Z : zC p s m args c cc own Ts nL D ct A) (hdg : decode cc pc = .ok (.idiv, 1)) (hx : 0 ≤ x ∧ x < 2147483648) (hy : 0 < y ∧ y < 2147483648)
    (kk : zW p l e R s m args below meth c D A nL Q cells slots ws lv (pc + 1) (zi (x / y) :: st)) : zW p l e R s m args below meth c D A nL Q cells slots ws lv pc (zi y :: zi x :: st) :=
  fun H locs ls hP hD hS hl => lv_idiv Z.1.1 Z.1.2.1 hdg (by rw [← zI_0, zI_eq ⟨by omega, by omega⟩ ⟨by omega, by omega⟩]; omega) (by rw [zI_div hx hy]; exact kk H locs ls hP hD hS hl)
theorem z_irem {x y : Int} (Z : zC p s m args c cc own Ts nL D ct A) (hdg : decode cc pc = .ok (.irem, 1)) (hx : 0 ≤ x ∧ x < 2147483648) (hy : 0 < y ∧ y < 2147483648)
    (kk : zW p l e R s m args below meth c D A nL Q cells slots ws lv (pc + 1) (zi (x % y) :: st)) : zW p l e R s m args below meth c D A nL Q cells slots ws lv pc (zi y :: zi x :: st) :=
  fun H locs ls hP hD hS hl => lv_irem Z.1.1 Z.1.2.1 hdg (by rw [← zI_0, zI_eq ⟨by omega, by omega⟩ ⟨by omega, by omega⟩]; omega) (by rw [zI_rem hx hy]; exact kk H locs ls hP hD hS hl)
theorem z_iand {x y : Int32} {v : Int} (Z : zC p s m args c cc own Ts nL D ct A) (hdg : decode cc pc = .ok (.iand, 1)) (hv : x &&& y = zI v)
    (kk : zW p l e R s m args below meth c D A nL Q cells slots ws lv (pc + 1) (zi v :: st)) : zW p l e R s m args below meth c D A nL Q cells slots ws lv pc (.int y :: .int x :: st) :=
  fun H locs ls hP hD hS hl => lv_iand Z.1.1 Z.1.2.1 hdg (by rw [hv]; exact kk H locs ls hP hD hS hl)
theorem z_ior {x y : Int32} {v : Int} (Z : zC p s m args c cc own Ts nL D ct A) (hdg : decode cc pc = .ok (.ior, 1)) (hv : x ||| y = zI v)
    (kk : zW p l e R s m args below meth c D A nL Q cells slots ws lv (pc + 1) (zi v :: st)) : zW p l e R s m args below meth c D A nL Q cells slots ws lv pc (.int y :: .int x :: st) :=
  fun H locs ls hP hD hS hl => lv_ior Z.1.1 Z.1.2.1 hdg (by rw [hv]; exact kk H locs ls hP hD hS hl)
theorem z_ixor {x y : Int32} {v : Int} (Z : zC p s m args c cc own Ts nL D ct A) (hdg : decode cc pc = .ok (.ixor, 1)) (hv : x ^^^ y = zI v)
    (kk : zW p l e R s m args below meth c D A nL Q cells slots ws lv (pc + 1) (zi v :: st)) : zW p l e R s m args below meth c D A nL Q cells slots ws lv pc (.int y :: .int x :: st) :=
  fun H locs ls hP hD hS hl => lv_ixor Z.1.1 Z.1.2.1 hdg (by rw [hv]; exact kk H locs ls hP hD hS hl)
theorem z_ishl {x y : Int32} {v : Int} (Z : zC p s m args c cc own Ts nL D ct A) (hdg : decode cc pc = .ok (.ishl, 1)) (hv : x <<< (y &&& 31) = zI v)
    (kk : zW p l e R s m args below meth c D A nL Q cells slots ws lv (pc + 1) (zi v :: st)) : zW p l e R s m args below meth c D A nL Q cells slots ws lv pc (.int y :: .int x :: st) :=
  fun H locs ls hP hD hS hl => lv_ishl Z.1.1 Z.1.2.1 hdg (by rw [hv]; exact kk H locs ls hP hD hS hl)
theorem z_ishr {x y : Int32} {v : Int} (Z : zC p s m args c cc own Ts nL D ct A) (hdg : decode cc pc = .ok (.ishr, 1)) (hv : x >>> (y &&& 31) = zI v)
    (kk : zW p l e R s m args below meth c D A nL Q cells slots ws lv (pc + 1) (zi v :: st)) : zW p l e R s m args below meth c D A nL Q cells slots ws lv pc (.int y :: .int x :: st) :=
  fun H locs ls hP hD hS hl => lv_ishr Z.1.1 Z.1.2.1 hdg (by rw [hv]; exact kk H locs ls hP hD hS hl)
theorem z_dup {v : Value} (Z : zC p s m args c cc own Ts nL D ct A) (hdg : decode cc pc = .ok (.dup, 1)) (hv : v.category = 1)
    (kk : zW p l e R s m args below meth c D A nL Q cells slots ws lv (pc + 1) (v :: v :: st)) : zW p l e R s m args below meth c D A nL Q cells slots ws lv pc (v :: st) :=
  fun H locs ls hP hD hS hl => lv_dup Z.1.1 Z.1.2.1 hdg hv (kk H locs ls hP hD hS hl)
theorem z_dup2 {v w : Value} (Z : zC p s m args c cc own Ts nL D ct A) (hdg : decode cc pc = .ok (.dup2, 1)) (hv : v.category = 1) (hw : w.category = 1)
    (kk : zW p l e R s m args below meth c D A nL Q cells slots ws lv (pc + 1) (v :: w :: v :: w :: st)) : zW p l e R s m args below meth c D A nL Q cells slots ws lv pc (v :: w :: st) :=
  fun H locs ls hP hD hS hl => lv_dup2_11 Z.1.1 Z.1.2.1 hdg hv hw (kk H locs ls hP hD hS hl)
theorem z_pop {v : Value} (Z : zC p s m args c cc own Ts nL D ct A) (hdg : decode cc pc = .ok (.pop, 1)) (hv : v.category = 1)
    (kk : zW p l e R s m args below meth c D A nL Q cells slots ws lv (pc + 1) st) : zW p l e R s m args below meth c D A nL Q cells slots ws lv pc (v :: st) :=
  fun H locs ls hP hD hS hl => lv_pop Z.1.1 Z.1.2.1 hdg hv (kk H locs ls hP hD hS hl)
theorem z_i2l {x : Int32} (Z : zC p s m args c cc own Ts nL D ct A) (hdg : decode cc pc = .ok (.i2l, 1)) 
    (kk : zW p l e R s m args below meth c D A nL Q cells slots ws lv (pc + 1) (.long x.toInt64 :: st)) : zW p l e R s m args below meth c D A nL Q cells slots ws lv pc (.int x :: st) :=
  fun H locs ls hP hD hS hl => lv_i2l Z.1.1 Z.1.2.1 hdg rfl (kk H locs ls hP hD hS hl)
theorem z_if_eq {x : Int} {off : Int} (Z : zC p s m args c cc own Ts nL D ct A) (tgt : Nat) (hdg : decode cc pc = .ok (.ifCond .eq off, 3)) (ht : (pc : Int) + off = (tgt : Int)) (hx : -2147483648 ≤ x ∧ x < 2147483648)
    (kt : x = 0 → zW p l e R s m args below meth c D A nL Q cells slots ws lv tgt st) (kf : x ≠ 0 → zW p l e R s m args below meth c D A nL Q cells slots ws lv (pc + 3) st) : zW p l e R s m args below meth c D A nL Q cells slots ws lv pc (zi x :: st) :=
  fun H locs ls hP hD hS hl => by
    have h0 : (-2147483648 : Int) ≤ 0 ∧ (0 : Int) < 2147483648 := by omega
    refine lv_if_eq Z.1.1 Z.1.2.1 hdg ht (fun h => kt ?_ H locs ls hP hD hS hl) (fun h => kf ?_ H locs ls hP hD hS hl)
    all_goals (rw [← zI_0] at h; (first | rw [zI_eq hx h0] at h | rw [zI_lt hx h0] at h | rw [zI_lt h0 hx] at h | rw [zI_le hx h0] at h | rw [zI_le h0 hx] at h | rw [Ne, zI_eq hx h0] at h); omega)
theorem z_if_ne {x : Int} {off : Int} (Z : zC p s m args c cc own Ts nL D ct A) (tgt : Nat) (hdg : decode cc pc = .ok (.ifCond .ne off, 3)) (ht : (pc : Int) + off = (tgt : Int)) (hx : -2147483648 ≤ x ∧ x < 2147483648)
    (kt : x ≠ 0 → zW p l e R s m args below meth c D A nL Q cells slots ws lv tgt st) (kf : x = 0 → zW p l e R s m args below meth c D A nL Q cells slots ws lv (pc + 3) st) : zW p l e R s m args below meth c D A nL Q cells slots ws lv pc (zi x :: st) :=
  fun H locs ls hP hD hS hl => by
    have h0 : (-2147483648 : Int) ≤ 0 ∧ (0 : Int) < 2147483648 := by omega
    refine lv_if_ne Z.1.1 Z.1.2.1 hdg ht (fun h => kt ?_ H locs ls hP hD hS hl) (fun h => kf ?_ H locs ls hP hD hS hl)
    all_goals (rw [← zI_0] at h; (first | rw [zI_eq hx h0] at h | rw [zI_lt hx h0] at h | rw [zI_lt h0 hx] at h | rw [zI_le hx h0] at h | rw [zI_le h0 hx] at h | rw [Ne, zI_eq hx h0] at h); omega)
theorem z_if_lt {x : Int} {off : Int} (Z : zC p s m args c cc own Ts nL D ct A) (tgt : Nat) (hdg : decode cc pc = .ok (.ifCond .lt off, 3)) (ht : (pc : Int) + off = (tgt : Int)) (hx : -2147483648 ≤ x ∧ x < 2147483648)
    (kt : x < 0 → zW p l e R s m args below meth c D A nL Q cells slots ws lv tgt st) (kf : 0 ≤ x → zW p l e R s m args below meth c D A nL Q cells slots ws lv (pc + 3) st) : zW p l e R s m args below meth c D A nL Q cells slots ws lv pc (zi x :: st) :=
  fun H locs ls hP hD hS hl => by
    have h0 : (-2147483648 : Int) ≤ 0 ∧ (0 : Int) < 2147483648 := by omega
    refine lv_if_lt Z.1.1 Z.1.2.1 hdg ht (fun h => kt ?_ H locs ls hP hD hS hl) (fun h => kf ?_ H locs ls hP hD hS hl)
    all_goals (rw [← zI_0] at h; (first | rw [zI_eq hx h0] at h | rw [zI_lt hx h0] at h | rw [zI_lt h0 hx] at h | rw [zI_le hx h0] at h | rw [zI_le h0 hx] at h | rw [Ne, zI_eq hx h0] at h); omega)
theorem z_if_ge {x : Int} {off : Int} (Z : zC p s m args c cc own Ts nL D ct A) (tgt : Nat) (hdg : decode cc pc = .ok (.ifCond .ge off, 3)) (ht : (pc : Int) + off = (tgt : Int)) (hx : -2147483648 ≤ x ∧ x < 2147483648)
    (kt : 0 ≤ x → zW p l e R s m args below meth c D A nL Q cells slots ws lv tgt st) (kf : x < 0 → zW p l e R s m args below meth c D A nL Q cells slots ws lv (pc + 3) st) : zW p l e R s m args below meth c D A nL Q cells slots ws lv pc (zi x :: st) :=
  fun H locs ls hP hD hS hl => by
    have h0 : (-2147483648 : Int) ≤ 0 ∧ (0 : Int) < 2147483648 := by omega
    refine lv_if_ge Z.1.1 Z.1.2.1 hdg ht (fun h => kt ?_ H locs ls hP hD hS hl) (fun h => kf ?_ H locs ls hP hD hS hl)
    all_goals (rw [← zI_0] at h; (first | rw [zI_eq hx h0] at h | rw [zI_lt hx h0] at h | rw [zI_lt h0 hx] at h | rw [zI_le hx h0] at h | rw [zI_le h0 hx] at h | rw [Ne, zI_eq hx h0] at h); omega)
theorem z_if_gt {x : Int} {off : Int} (Z : zC p s m args c cc own Ts nL D ct A) (tgt : Nat) (hdg : decode cc pc = .ok (.ifCond .gt off, 3)) (ht : (pc : Int) + off = (tgt : Int)) (hx : -2147483648 ≤ x ∧ x < 2147483648)
    (kt : 0 < x → zW p l e R s m args below meth c D A nL Q cells slots ws lv tgt st) (kf : x ≤ 0 → zW p l e R s m args below meth c D A nL Q cells slots ws lv (pc + 3) st) : zW p l e R s m args below meth c D A nL Q cells slots ws lv pc (zi x :: st) :=
  fun H locs ls hP hD hS hl => by
    have h0 : (-2147483648 : Int) ≤ 0 ∧ (0 : Int) < 2147483648 := by omega
    refine lv_if_gt Z.1.1 Z.1.2.1 hdg ht (fun h => kt ?_ H locs ls hP hD hS hl) (fun h => kf ?_ H locs ls hP hD hS hl)
    all_goals (rw [← zI_0] at h; (first | rw [zI_eq hx h0] at h | rw [zI_lt hx h0] at h | rw [zI_lt h0 hx] at h | rw [zI_le hx h0] at h | rw [zI_le h0 hx] at h | rw [Ne, zI_eq hx h0] at h); omega)
theorem z_if_le {x : Int} {off : Int} (Z : zC p s m args c cc own Ts nL D ct A) (tgt : Nat) (hdg : decode cc pc = .ok (.ifCond .le off, 3)) (ht : (pc : Int) + off = (tgt : Int)) (hx : -2147483648 ≤ x ∧ x < 2147483648)
    (kt : x ≤ 0 → zW p l e R s m args below meth c D A nL Q cells slots ws lv tgt st) (kf : 0 < x → zW p l e R s m args below meth c D A nL Q cells slots ws lv (pc + 3) st) : zW p l e R s m args below meth c D A nL Q cells slots ws lv pc (zi x :: st) :=
  fun H locs ls hP hD hS hl => by
    have h0 : (-2147483648 : Int) ≤ 0 ∧ (0 : Int) < 2147483648 := by omega
    refine lv_if_le Z.1.1 Z.1.2.1 hdg ht (fun h => kt ?_ H locs ls hP hD hS hl) (fun h => kf ?_ H locs ls hP hD hS hl)
    all_goals (rw [← zI_0] at h; (first | rw [zI_eq hx h0] at h | rw [zI_lt hx h0] at h | rw [zI_lt h0 hx] at h | rw [zI_le hx h0] at h | rw [zI_le h0 hx] at h | rw [Ne, zI_eq hx h0] at h); omega)
theorem z_icmp_eq {x y : Int} {off : Int} (Z : zC p s m args c cc own Ts nL D ct A) (tgt : Nat) (hdg : decode cc pc = .ok (.if_icmp .eq off, 3)) (ht : (pc : Int) + off = (tgt : Int)) (hx : -2147483648 ≤ x ∧ x < 2147483648) (hy : -2147483648 ≤ y ∧ y < 2147483648)
    (kt : x = y → zW p l e R s m args below meth c D A nL Q cells slots ws lv tgt st) (kf : x ≠ y → zW p l e R s m args below meth c D A nL Q cells slots ws lv (pc + 3) st) : zW p l e R s m args below meth c D A nL Q cells slots ws lv pc (zi y :: zi x :: st) :=
  fun H locs ls hP hD hS hl => by
    refine lv_icmp_eq Z.1.1 Z.1.2.1 hdg ht (fun h => kt ?_ H locs ls hP hD hS hl) (fun h => kf ?_ H locs ls hP hD hS hl)
    all_goals ((first | rw [zI_eq hx hy] at h | rw [zI_lt hx hy] at h | rw [zI_lt hy hx] at h | rw [zI_le hx hy] at h | rw [zI_le hy hx] at h | rw [Ne, zI_eq hx hy] at h); omega)
theorem z_icmp_ne {x y : Int} {off : Int} (Z : zC p s m args c cc own Ts nL D ct A) (tgt : Nat) (hdg : decode cc pc = .ok (.if_icmp .ne off, 3)) (ht : (pc : Int) + off = (tgt : Int)) (hx : -2147483648 ≤ x ∧ x < 2147483648) (hy : -2147483648 ≤ y ∧ y < 2147483648)
    (kt : x ≠ y → zW p l e R s m args below meth c D A nL Q cells slots ws lv tgt st) (kf : x = y → zW p l e R s m args below meth c D A nL Q cells slots ws lv (pc + 3) st) : zW p l e R s m args below meth c D A nL Q cells slots ws lv pc (zi y :: zi x :: st) :=
  fun H locs ls hP hD hS hl => by
    refine lv_icmp_ne Z.1.1 Z.1.2.1 hdg ht (fun h => kt ?_ H locs ls hP hD hS hl) (fun h => kf ?_ H locs ls hP hD hS hl)
    all_goals ((first | rw [zI_eq hx hy] at h | rw [zI_lt hx hy] at h | rw [zI_lt hy hx] at h | rw [zI_le hx hy] at h | rw [zI_le hy hx] at h | rw [Ne, zI_eq hx hy] at h); omega)
theorem z_icmp_lt {x y : Int} {off : Int} (Z : zC p s m args c cc own Ts nL D ct A) (tgt : Nat) (hdg : decode cc pc = .ok (.if_icmp .lt off, 3)) (ht : (pc : Int) + off = (tgt : Int)) (hx : -2147483648 ≤ x ∧ x < 2147483648) (hy : -2147483648 ≤ y ∧ y < 2147483648)
    (kt : x < y → zW p l e R s m args below meth c D A nL Q cells slots ws lv tgt st) (kf : y ≤ x → zW p l e R s m args below meth c D A nL Q cells slots ws lv (pc + 3) st) : zW p l e R s m args below meth c D A nL Q cells slots ws lv pc (zi y :: zi x :: st) :=
  fun H locs ls hP hD hS hl => by
    refine lv_icmp_lt Z.1.1 Z.1.2.1 hdg ht (fun h => kt ?_ H locs ls hP hD hS hl) (fun h => kf ?_ H locs ls hP hD hS hl)
    all_goals ((first | rw [zI_eq hx hy] at h | rw [zI_lt hx hy] at h | rw [zI_lt hy hx] at h | rw [zI_le hx hy] at h | rw [zI_le hy hx] at h | rw [Ne, zI_eq hx hy] at h); omega)
theorem z_icmp_ge {x y : Int} {off : Int} (Z : zC p s m args c cc own Ts nL D ct A) (tgt : Nat) (hdg : decode cc pc = .ok (.if_icmp .ge off, 3)) (ht : (pc : Int) + off = (tgt : Int)) (hx : -2147483648 ≤ x ∧ x < 2147483648) (hy : -2147483648 ≤ y ∧ y < 2147483648)
    (kt : y ≤ x → zW p l e R s m args below meth c D A nL Q cells slots ws lv tgt st) (kf : x < y → zW p l e R s m args below meth c D A nL Q cells slots ws lv (pc + 3) st) : zW p l e R s m args below meth c D A nL Q cells slots ws lv pc (zi y :: zi x :: st) :=
  fun H locs ls hP hD hS hl => by
    refine lv_icmp_ge Z.1.1 Z.1.2.1 hdg ht (fun h => kt ?_ H locs ls hP hD hS hl) (fun h => kf ?_ H locs ls hP hD hS hl)
    all_goals ((first | rw [zI_eq hx hy] at h | rw [zI_lt hx hy] at h | rw [zI_lt hy hx] at h | rw [zI_le hx hy] at h | rw [zI_le hy hx] at h | rw [Ne, zI_eq hx hy] at h); omega)
theorem z_icmp_gt {x y : Int} {off : Int} (Z : zC p s m args c cc own Ts nL D ct A) (tgt : Nat) (hdg : decode cc pc = .ok (.if_icmp .gt off, 3)) (ht : (pc : Int) + off = (tgt : Int)) (hx : -2147483648 ≤ x ∧ x < 2147483648) (hy : -2147483648 ≤ y ∧ y < 2147483648)
    (kt : y < x → zW p l e R s m args below meth c D A nL Q cells slots ws lv tgt st) (kf : x ≤ y → zW p l e R s m args below meth c D A nL Q cells slots ws lv (pc + 3) st) : zW p l e R s m args below meth c D A nL Q cells slots ws lv pc (zi y :: zi x :: st) :=
  fun H locs ls hP hD hS hl => by
    refine lv_icmp_gt Z.1.1 Z.1.2.1 hdg ht (fun h => kt ?_ H locs ls hP hD hS hl) (fun h => kf ?_ H locs ls hP hD hS hl)
    all_goals ((first | rw [zI_eq hx hy] at h | rw [zI_lt hx hy] at h | rw [zI_lt hy hx] at h | rw [zI_le hx hy] at h | rw [zI_le hy hx] at h | rw [Ne, zI_eq hx hy] at h); omega)
theorem z_icmp_le {x y : Int} {off : Int} (Z : zC p s m args c cc own Ts nL D ct A) (tgt : Nat) (hdg : decode cc pc = .ok (.if_icmp .le off, 3)) (ht : (pc : Int) + off = (tgt : Int)) (hx : -2147483648 ≤ x ∧ x < 2147483648) (hy : -2147483648 ≤ y ∧ y < 2147483648)
    (kt : x ≤ y → zW p l e R s m args below meth c D A nL Q cells slots ws lv tgt st) (kf : y < x → zW p l e R s m args below meth c D A nL Q cells slots ws lv (pc + 3) st) : zW p l e R s m args below meth c D A nL Q cells slots ws lv pc (zi y :: zi x :: st) :=
  fun H locs ls hP hD hS hl => by
    refine lv_icmp_le Z.1.1 Z.1.2.1 hdg ht (fun h => kt ?_ H locs ls hP hD hS hl) (fun h => kf ?_ H locs ls hP hD hS hl)
    all_goals ((first | rw [zI_eq hx hy] at h | rw [zI_lt hx hy] at h | rw [zI_lt hy hx] at h | rw [zI_le hx hy] at h | rw [zI_le hy hx] at h | rw [Ne, zI_eq hx hy] at h); omega)
theorem z_goto {off : Int} (Z : zC p s m args c cc own Ts nL D ct A) (tgt : Nat) (hdg : decode cc pc = .ok (.goto off, 3)) (ht : (pc : Int) + off = (tgt : Int)) (kk : zW p l e R s m args below meth c D A nL Q cells slots ws lv tgt st) : zW p l e R s m args below meth c D A nL Q cells slots ws lv pc st :=
  fun H locs ls hP hD hS hl => lv_goto Z.1.1 Z.1.2.1 hdg ht (kk H locs ls hP hD hS hl)
theorem z_iald {a n : Nat} {g : Nat → Int} {i : Int} (Z : zC p s m args c cc own Ts nL D ct A) (hdg : decode cc pc = .ok (.iaload, 1)) (q0 k : Nat) (ha : ws[q0]? = some (zAI ct a n g)) (hk : i = (k : Int)) (hn : k < n ∧ n < 2147483648)
    (kk : zW p l e R s m args below meth c D A nL Q cells slots ws lv (pc + 1) (zi (g k) :: st)) : zW p l e R s m args below meth c D A nL Q cells slots ws lv pc (zi i :: .ref a :: st) :=
  fun H locs ls hP hD hS hl => va_iald Z.1.1 Z.1.2.1 Z.2.1 hP q0 0 ha rfl (zI_in hk hn.1 hn.2) hdg (by rw [zI_cl hk (Nat.lt_trans hn.1 hn.2)]; exact kk H locs ls hP hD hS hl)
theorem z_zald {a n : Nat} {g : Nat → Int} {i : Int} (Z : zC p s m args c cc own Ts nL D ct A) (hdg : decode cc pc = .ok (.baload, 1)) (q0 k : Nat) (ha : ws[q0]? = some (zAZ ct a n g)) (hk : i = (k : Int)) (hn : k < n ∧ n < 2147483648)
    (kk : zW p l e R s m args below meth c D A nL Q cells slots ws lv (pc + 1) (zi (g k) :: st)) : zW p l e R s m args below meth c D A nL Q cells slots ws lv pc (zi i :: .ref a :: st) :=
  fun H locs ls hP hD hS hl => va_zald Z.1.1 Z.1.2.1 Z.2.1 hP q0 1 ha rfl (zI_in hk hn.1 hn.2) hdg (by rw [zI_cl hk (Nat.lt_trans hn.1 hn.2)]; exact kk H locs ls hP hD hS hl)
theorem z_aald {a n r : Nat} {f : Nat → Option Nat} {i : Int} (Z : zC p s m args c cc own Ts nL D ct A) (hdg : decode cc pc = .ok (.aaload, 1)) (q0 k : Nat) (ha : ws[q0]? = some (zAS ct a n f)) (hk : i = (k : Int)) (hn : k < n ∧ n < 2147483648) (hf : f k = some r)
    (kk : zW p l e R s m args below meth c D A nL Q cells slots ws lv (pc + 1) (.ref r :: st)) : zW p l e R s m args below meth c D A nL Q cells slots ws lv pc (zi i :: .ref a :: st) :=
  fun H locs ls hP hD hS hl => va_aldq Z.1.1 Z.1.2.1 Z.2.1 hP q0 2 ha rfl (zI_in hk hn.1 hn.2) hdg (by rw [zI_cl hk (Nat.lt_trans hn.1 hn.2), hf]; exact kk H locs ls hP hD hS hl)
theorem z_iast {a n : Nat} {g : Nat → Int} {i v : Int} (Z : zC p s m args c cc own Ts nL D ct A) (hdg : decode cc pc = .ok (.iastore, 1)) (q0 k : Nat) (ws' : va_W) (ha : ws[q0]? = some (zAI ct a n g)) (hk : i = (k : Int)) (hn : k < n ∧ n < 2147483648) (hw : ws.set q0 (zAI ct a n (zU g k v)) = ws')
    (kk : zW p l e R s m args below meth c D A nL Q cells slots ws' lv (pc + 1) st) : zW p l e R s m args below meth c D A nL Q cells slots ws lv pc (zi v :: zi i :: .ref a :: st) :=
  fun H locs ls hP hD hS hl => va_iast Z.1.1 Z.1.2.1 Z.2.1 hP hD hS q0 0 ha rfl (zI_in hk hn.1 hn.2) hdg (fun H1 locs1 hP1 hD1 hS1 => by rw [zF_upd g v hk (Nat.lt_trans hn.1 hn.2)] at hP1 hD1; subst hw; exact kk H1 locs1 ls hP1 hD1 hS1 hl)
theorem z_zast {a n : Nat} {g : Nat → Int} {i v : Int} (Z : zC p s m args c cc own Ts nL D ct A) (hdg : decode cc pc = .ok (.bastore, 1)) (q0 k : Nat) (ws' : va_W) (ha : ws[q0]? = some (zAZ ct a n g)) (hk : i = (k : Int)) (hn : k < n ∧ n < 2147483648) (hv : vp_nar .boolean (zI v) = zI v) (hw : ws.set q0 (zAZ ct a n (zU g k v)) = ws')
    (kk : zW p l e R s m args below meth c D A nL Q cells slots ws' lv (pc + 1) st) : zW p l e R s m args below meth c D A nL Q cells slots ws lv pc (zi v :: zi i :: .ref a :: st) :=
  fun H locs ls hP hD hS hl => va_zast Z.1.1 Z.1.2.1 Z.2.1 hP hD hS q0 1 ha rfl (zI_in hk hn.1 hn.2) hdg (fun H1 locs1 hP1 hD1 hS1 => by rw [hv, zF_upd g v hk (Nat.lt_trans hn.1 hn.2)] at hP1 hD1; subst hw; exact kk H1 locs1 ls hP1 hD1 hS1 hl)
theorem z_ialdN {a n : Nat} {g : Nat → Nat} {i : Int} (Z : zC p s m args c cc own Ts nL D ct A) (hdg : decode cc pc = .ok (.iaload, 1)) (q0 k : Nat) (ha : ws[q0]? = some (zAI ct a n (zN g))) (hk : i = (k : Int)) (hn : k < n ∧ n < 2147483648)
    (kk : zW p l e R s m args below meth c D A nL Q cells slots ws lv (pc + 1) (zi ((g k : Nat) : Int) :: st)) : zW p l e R s m args below meth c D A nL Q cells slots ws lv pc (zi i :: .ref a :: st) :=
  fun H locs ls hP hD hS hl => z_iald Z hdg q0 k ha hk hn kk H locs ls hP hD hS hl
theorem z_iastN {a n : Nat} {g : Nat → Nat} {i : Int} {v : Nat} (Z : zC p s m args c cc own Ts nL D ct A) (hdg : decode cc pc = .ok (.iastore, 1)) (q0 k : Nat) (ws' : va_W) (ha : ws[q0]? = some (zAI ct a n (zN g))) (hk : i = (k : Int)) (hn : k < n ∧ n < 2147483648) (hw : ws.set q0 (zAI ct a n (zN (zU g k v))) = ws')
    (kk : zW p l e R s m args below meth c D A nL Q cells slots ws' lv (pc + 1) st) : zW p l e R s m args below meth c D A nL Q cells slots ws lv pc (zi (v : Int) :: zi i :: .ref a :: st) :=
  fun H locs ls hP hD hS hl => z_iast Z hdg q0 k ws' ha hk hn (by rw [zN_U]; exact hw) kk H locs ls hP hD hS hl
theorem z_ifb_eq {b : Bool} {off : Int} (Z : zC p s m args c cc own Ts nL D ct A) (tgt : Nat) (hdg : decode cc pc = .ok (.ifCond .eq off, 3)) (ht : (pc : Int) + off = (tgt : Int))
    (kt : b = false → zW p l e R s m args below meth c D A nL Q cells slots ws lv tgt st) (kf : b = true → zW p l e R s m args below meth c D A nL Q cells slots ws lv (pc + 3) st) : zW p l e R s m args below meth c D A nL Q cells slots ws lv pc (zi (zb b) :: st) := by
  refine z_if_eq Z tgt hdg ht (by cases b <;> decide) (fun h => kt ?_) (fun h => kf ?_)
  · cases b
    · first | rfl | exact absurd rfl h
    · first | rfl | exact absurd h (by decide)
  · cases b
    · first | rfl | exact absurd rfl h | exact absurd h (by decide)
    · first | rfl | exact absurd rfl h | exact absurd h (by decide)
theorem z_ifb_ne {b : Bool} {off : Int} (Z : zC p s m args c cc own Ts nL D ct A) (tgt : Nat) (hdg : decode cc pc = .ok (.ifCond .ne off, 3)) (ht : (pc : Int) + off = (tgt : Int))
    (kt : b = true → zW p l e R s m args below meth c D A nL Q cells slots ws lv tgt st) (kf : b = false → zW p l e R s m args below meth c D A nL Q cells slots ws lv (pc + 3) st) : zW p l e R s m args below meth c D A nL Q cells slots ws lv pc (zi (zb b) :: st) := by
  refine z_if_ne Z tgt hdg ht (by cases b <;> decide) (fun h => kt ?_) (fun h => kf ?_)
  · cases b
    · first | rfl | exact absurd rfl h
    · first | rfl | exact absurd h (by decide)
  · cases b
    · first | rfl | exact absurd rfl h | exact absurd h (by decide)
    · first | rfl | exact absurd rfl h | exact absurd h (by decide)
theorem z_alen {a n : Nat} {g : Nat → Int} (Z : zC p s m args c cc own Ts nL D ct A) (hdg : decode cc pc = .ok (.arraylength, 1)) (q0 : Nat) (ha : ws[q0]? = some (zAI ct a n g))
    (kk : zW p l e R s m args below meth c D A nL Q cells slots ws lv (pc + 1) (zi n :: st)) : zW p l e R s m args below meth c D A nL Q cells slots ws lv pc (.ref a :: st) :=
  fun H locs ls hP hD hS hl => va_alen Z.1.1 Z.1.2.1 Z.2.1 hP q0 0 ha rfl (zI_nat n) hdg (kk H locs ls hP hD hS hl)
theorem z_get {a ci N ix : Nat} {fs : List Value} {C : String} {T : u_T} {v : Value} (Z : zC p s m args c cc own Ts nL D ct A) (hdg : decode cc pc = .ok (.getfield ix, 3)) (hin : ∀ w ∈ u_ws C T N, w ∈ Ts) (q0 k : Nat) (he : ws[q0]? = some (zO a ci fs)) (hc : vwCl[ci]? = some (C, T, N)) (hk : k < N) (hlink : Cond.fieldLink own ix (T k).1 (T k).2.1 (T k).2.2.1 ∈ Ts) (hv : fs[k]? = some v)
    (kk : zW p l e R s m args below meth c D A nL Q cells slots ws lv (pc + 3) (v :: st)) : zW p l e R s m args below meth c D A nL Q cells slots ws lv pc (.ref a :: st) :=
  fun H locs ls hP hD hS hl => va_get Z.1.1 Z.1.2.1 Z.1.2.2.2.2 hin Z.1.2.2.2.1 Z.2.1 hP q0 he hc k hk (Z.1.2.2.2.2 _ hlink) (fun _ h => h) hv hdg (kk H locs ls hP hD hS hl)
theorem z_put {a ci N ix : Nat} {fs : List Value} {C : String} {T : u_T} {v : Value} {ty : FieldType} (Z : zC p s m args c cc own Ts nL D ct A) (hdg : decode cc pc = .ok (.putfield ix, 3)) (hin : ∀ w ∈ u_ws C T N, w ∈ Ts) (ty0 : Nat → FieldType) (hty : ∀ k, k < N → parseFieldDescriptor (T k).2.2.1 = some (ty0 k)) (hnm : ∀ a, a < N → ∀ b, b < N → a ≠ b → (T a).2.1 ≠ (T b).2.1)
    (q0 k : Nat) (ws' : va_W) (he : ws[q0]? = some (zO a ci fs)) (hc : vwCl[ci]? = some (C, T, N)) (hk : k < N) (hlink : Cond.fieldLink own ix (T k).1 (T k).2.1 (T k).2.2.1 ∈ Ts) (hfin : (T k).2.2.2 = false) (hd : parseFieldDescriptor (T k).2.2.1 = some ty) (hn : narrow ty v = v) (hfit : fits ty v = true) (hl9 : k < fs.length) (hw : ws.set q0 (zO a ci (fs.set k v)) = ws')
    (kk : zW p l e R s m args below meth c D A nL Q cells slots ws' lv (pc + 3) st) : zW p l e R s m args below meth c D A nL Q cells slots ws lv pc (v :: .ref a :: st) :=
  fun H locs ls hP hD hS hl => va_put Z.1.1 Z.1.2.1 Z.1.2.2.2.2 hin ty0 hty hnm Z.1.2.2.2.1 Z.2.1 hP hD hS q0 he hc k hk (Z.1.2.2.2.2 _ hlink) (fun _ h => h) hfin hd hn hfit hl9 hdg (fun H1 locs1 hP1 hD1 hS1 => by subst hw; exact kk H1 locs1 ls hP1 hD1 hS1 hl)
theorem z_putF {a ci N ix : Nat} {fs : List Value} {C : String} {T : u_T} {v : Value} {ty : FieldType} (Z : zC p s m args c cc own Ts nL D ct A) (hdg : decode cc pc = .ok (.putfield ix, 3)) (hin2 : meth.name = "<init>") (hin : ∀ w ∈ u_ws C T N, w ∈ Ts) (ty0 : Nat → FieldType) (hty : ∀ k, k < N → parseFieldDescriptor (T k).2.2.1 = some (ty0 k)) (hnm : ∀ a, a < N → ∀ b, b < N → a ≠ b → (T a).2.1 ≠ (T b).2.1)
    (q0 k : Nat) (ws' : va_W) (he : ws[q0]? = some (zO a ci fs)) (hc : vwCl[ci]? = some (C, T, N)) (hk : k < N) (hlink : Cond.fieldLink own ix (T k).1 (T k).2.1 (T k).2.2.1 ∈ Ts) (hfin : (T k).2.2.2 = true) (hdecl : (T k).1 = own) (hd : parseFieldDescriptor (T k).2.2.1 = some ty) (hn : narrow ty v = v) (hfit : fits ty v = true) (hl9 : k < fs.length) (hw : ws.set q0 (zO a ci (fs.set k v)) = ws')
    (kk : zW p l e R s m args below meth c D A nL Q cells slots ws' lv (pc + 3) st) : zW p l e R s m args below meth c D A nL Q cells slots ws lv pc (v :: .ref a :: st) :=
  fun H locs ls hP hD hS hl => va_putF Z.1.1 Z.1.2.1 Z.1.2.2.2.2 hin ty0 hty hnm Z.1.2.2.2.1 Z.2.1 hP hD hS q0 he hc k hk (Z.1.2.2.2.2 _ hlink) (fun _ h => h) hfin hin2 hdecl hd hn hfit hl9 hdg (fun H1 locs1 hP1 hD1 hS1 => by subst hw; exact kk H1 locs1 ls hP1 hD1 hS1 hl)
theorem z_top {x y : Int} (h : y = x) (kk : zW p l e R s m args below meth c D A nL Q cells slots ws lv pc (zi y :: st)) : zW p l e R s m args below meth c D A nL Q cells slots ws lv pc (zi x :: st) := by subst h; exact kk
theorem z_eqs (ws' : va_W) (lv' : List (Nat × Value)) (st' : List Value) (h1 : ws = ws') (h2 : lv = lv') (h3 : st = st') (kk : zW p l e R s m args below meth c D A nL Q cells slots ws' lv' pc st') : zW p l e R s m args below meth c D A nL Q cells slots ws lv pc st := by subst h1; subst h2; subst h3; exact kk
theorem z_lsub (ks : List Nat) (lv' : List (Nat × Value)) (h : lv_pick lv ks = lv') (kk : zW p l e R s m args below meth c D A nL Q cells slots ws lv' pc st) : zW p l e R s m args below meth c D A nL Q cells slots ws lv pc st :=
  fun H locs ls hP hD hS hl => kk H locs ls hP hD hS (lv_sub hl ks h)
theorem z_widen (k n : Nat) (h1 : cells ≤ k) (h2 : slots ≤ n) (kk : zW p l e R s m args below meth c D A nL Q k n ws lv pc st) : zW p l e R s m args below meth c D A nL Q cells slots ws lv pc st :=
  fun H locs ls hP hD hS hl => W.widen h1 h2 (kk H locs ls hP hD hS hl)
end ZL
