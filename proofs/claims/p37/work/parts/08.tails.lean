/-! worlds with tails (rows of saved states), and calls over them -/
theorem ztc {E Ec Er T T1 T2 : va_W} (mask : List Bool) (h1 : zpick mask E = Ec) (h2 : zrest mask E = Er) (hT : T.Perm (T1 ++ T2)) : (E ++ T).Perm ((Ec ++ T1) ++ (Er ++ T2)) := by
  subst h1; subst h2
  refine ((zcut mask E).append hT).trans ?_
  rw [List.append_assoc, List.append_assoc]
  exact List.Perm.append_left _ (List.perm_append_comm_assoc _ _ _)
theorem ztb {w1 Er Em T1 T2 T : va_W} (mask : List Bool) (h : zmerge mask w1 Er = Em) (hT : (T1 ++ T2).Perm T) : ((w1 ++ T1) ++ (Er ++ T2)).Perm (Em ++ T) := by
  subst h
  refine List.Perm.trans ?_ ((zback mask w1 Er).append hT)
  rw [List.append_assoc, List.append_assoc]
  exact List.Perm.append_left _ (List.perm_append_comm_assoc _ _ _)
theorem zt_nil {T : va_W} : T.Perm (([] : va_W) ++ T) := List.Perm.refl _
theorem zt_all {T : va_W} : T.Perm (T ++ ([] : va_W)) := by rw [List.append_nil]
theorem zt_nilb {T : va_W} : (([] : va_W) ++ T).Perm T := List.Perm.refl _
theorem zt_allb {T : va_W} : (T ++ ([] : va_W)).Perm T := by rw [List.append_nil]
/-- a state's cells, by its addresses and what it holds: keys, names, depths, positions, count, splits, merges, ids given -/
abbrev StV : Type := (Nat → Nat) × (Nat → Nat) × (Nat → Nat) × (Nat → Int) × Nat × Nat × Nat × Nat
def stC (ct : zCT) (a : Nat → Nat) (v : StV) : va_W := [zO (a 0) 2 [.ref (a 1), .ref (a 2), .ref (a 3), zi ((v.2.2.2.2.2.2.2 : Nat) : Int)], zO (a 1) 0 [.ref (a 4), .ref (a 5), zi ((v.2.2.2.2.1 : Nat) : Int)], zAI ct (a 4) 40 (zN v.1), zAI ct (a 5) 40 (zN v.2.1), zO (a 2) 4 [.ref (a 6), zi ((v.2.2.2.2.2.1 : Nat) : Int), zi ((v.2.2.2.2.2.2.1 : Nat) : Int)], zAI ct (a 6) 64 (zN v.2.2.1), zAI ct (a 3) 4 v.2.2.2.1]
def stR (ct : zCT) (ra : Nat → Nat → Nat) (rv : Nat → StV) (L : List Nat) : va_W := L.flatMap (fun i => stC ct (ra i) (rv i))
theorem stR_out (ct : zCT) (ra : Nat → Nat → Nat) (rv : Nat → StV) {L : List Nat} {i : Nat} (h : i ∈ L) : (stR ct ra rv L).Perm (stC ct (ra i) (rv i) ++ stR ct ra rv (L.erase i)) := by
  have h1 := (List.perm_cons_erase h).flatMap_right (fun i => stC ct (ra i) (rv i))
  rw [List.flatMap_cons] at h1
  exact h1
theorem stR_cong (ct : zCT) (ra : Nat → Nat → Nat) {rv rw9 : Nat → StV} {L : List Nat} (h : ∀ j ∈ L, rv j = rw9 j) : stR ct ra rv L = stR ct ra rw9 L := by
  unfold stR
  induction L with
  | nil => rfl
  | cons x L ih =>
    rw [List.flatMap_cons, List.flatMap_cons, h x List.mem_cons_self, ih (fun j hj => h j (List.mem_cons_of_mem _ hj))]
theorem stR_in (ct : zCT) (ra : Nat → Nat → Nat) (rv : Nat → StV) {L : List Nat} {i : Nat} (h : i ∈ L) (hn : L.Nodup) (v : StV) : (stC ct (ra i) v ++ stR ct ra rv (L.erase i)).Perm (stR ct ra (zU rv i v) L) := by
  have h1 := (stR_out ct ra (zU rv i v) h).symm
  rw [zU_s] at h1
  have h2 : stR ct ra (zU rv i v) (L.erase i) = stR ct ra rv (L.erase i) := stR_cong ct ra (fun j hj => zU_n _ _ (fun e => by
    subst e
    exact (List.Nodup.not_mem_erase hn) hj))
  rw [h2] at h1
  exact h1
section ZTAIL
variable {p : Program} {l : Launch} {e : Env} {R : Room} {s : State} {m : MethodId} {args : Array Value} {below : List Frame} {meth : Method} {c : Code} {D : va_G} {A : Nat → Prop} {nL : Nat} {Q : State → Prop} {cells slots : Nat} {ws : va_W} {lv : List (Nat × Value)} {pc : Nat} {st : List Value} {cc : ByteArray} {own : String} {Ts : List Cond} {ct : zCT}
variable {y : MethodName} {wsC : List Cond} {rm : Room} {As : List Value} {wc wr : va_W} {res : Unit → Option Value} {ws' : Unit → va_W} {mc ms n ix maxL : Nat} {bytes : ByteArray} {ret : Option FieldType} {rest : List Value} {b : Nat}
theorem z_callVp (Z : zC p s m args c cc own Ts nL D ct A) (hdg : decode cc pc = .ok (.invokevirtual ix, 3)) {C9 : String} (ci q0 : Nat) (fs : List Value) (q : vw_C) (hc : vwCl[ci]? = some q) (hq : q.1 = C9) (he : ws[q0]? = some (zO b ci fs)) (hM : zMet l y wsC rm D ct (.ref b :: As) wc (fun _ : Unit => True) res ws' mc ms) (cw : CallW R s args own C9 ix y bytes maxL ret wsC rm mc ms n) (hn : As.length = n) (hrest : (rest.map fun v => v.category).sum ≤ 8) (hf : cells + mc ≤ R.cells ∧ slots + ms ≤ R.slots)
    (wn : va_W) (st1 : List Value) (hp : ws.Perm (wc ++ wr)) (hpn : (ws' () ++ wr).Perm wn) (hst : st = As.reverse ++ .ref b :: rest) (hst1 : (res ()).toList ++ rest = st1)
    (kk : zW p l e R s m args below meth c D A nL Q (cells + mc) (slots + ms) wn lv (pc + 3) st1) : zW p l e R s m args below meth c D A nL Q cells slots ws lv pc st :=
  z_callV Z hdg ci q0 fs q hc hq he hM cw hn hrest hf hp hst (fun _ _ => zW_perm wn hpn (by rw [hst1]; exact kk))
end ZTAIL
