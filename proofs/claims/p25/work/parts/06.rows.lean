section Rows
variable {p : Program} {l : Launch} {e : Env} {R : Room} {s : State} {m : MethodId} {args : Array Value} {below : List Frame} {meth : Method} {c : Code} {D : va_G} {ca : Nat → ClassId} {A : Nat → Prop} {nL : Nat} {Q : State → Prop} {cells slots : Nat} {cc : ByteArray} {own : String} {L : List Nat} {M : Mem} {pc n : Nat} {lv : List (Nat × Value)} {st : List Value}
theorem g_iconst (X : Fx p s m args meth c D ca A nL cc own) {z : Int} (d : decode cc pc = .ok (.iconst z, 1)) (hn : pc + 1 = n) (k : G p l e R s m args below meth c D A nL Q cells slots L M n lv (.int (iI z) :: st)) : G p l e R s m args below meth c D A nL Q cells slots L M pc lv (st) := by
  intro H locs ls hP hD hS hl
  subst hn
  exact lv_iconst X.1.1 X.1.2.1 d rfl (k H locs ls hP hD hS hl)
theorem g_bipush (X : Fx p s m args meth c D ca A nL cc own) {z : Int} (hz : (Int8.ofInt z).toInt32 = iI z) (d : decode cc pc = .ok (.bipush z, 2)) (hn : pc + 2 = n) (k : G p l e R s m args below meth c D A nL Q cells slots L M n lv (.int (iI z) :: st)) : G p l e R s m args below meth c D A nL Q cells slots L M pc lv (st) := by
  intro H locs ls hP hD hS hl
  subst hn
  exact lv_bipush X.1.1 X.1.2.1 d hz (k H locs ls hP hD hS hl)
theorem g_sipush (X : Fx p s m args meth c D ca A nL cc own) {z : Int} (hz : (Int16.ofInt z).toInt32 = iI z) (d : decode cc pc = .ok (.sipush z, 3)) (hn : pc + 3 = n) (k : G p l e R s m args below meth c D A nL Q cells slots L M n lv (.int (iI z) :: st)) : G p l e R s m args below meth c D A nL Q cells slots L M pc lv (st) := by
  intro H locs ls hP hD hS hl
  subst hn
  exact lv_sipush X.1.1 X.1.2.1 d hz (k H locs ls hP hD hS hl)
theorem g_ldc (X : Fx p s m args meth c D ca A nL cc own) {index : Nat} {z : Int} {v : Int32} (w : Cond.constant own index v ∈ TB) (hv : v = iI z) (d : decode cc pc = .ok (.ldc index, 2)) (hn : pc + 2 = n) (k : G p l e R s m args below meth c D A nL Q cells slots L M n lv (.int (iI z) :: st)) : G p l e R s m args below meth c D A nL Q cells slots L M pc lv (st) := by
  intro H locs ls hP hD hS hl
  subst hn
  exact lv_ldc X.1.1 X.1.2.1 X.1.2.2.2.1 (X.1.2.2.2.2 _ w) d (hv ▸ k H locs ls hP hD hS hl)
theorem g_ldcr (X : Fx p s m args meth c D ca A nL cc own) {index : Nat} {v : Int32} (w : Cond.constant own index v ∈ TB) (d : decode cc pc = .ok (.ldc index, 2)) (hn : pc + 2 = n) (k : G p l e R s m args below meth c D A nL Q cells slots L M n lv (.int v :: st)) : G p l e R s m args below meth c D A nL Q cells slots L M pc lv (st) := by
  intro H locs ls hP hD hS hl
  subst hn
  exact lv_ldc X.1.1 X.1.2.1 X.1.2.2.2.1 (X.1.2.2.2.2 _ w) d (k H locs ls hP hD hS hl)
theorem g_ldc2 (X : Fx p s m args meth c D ca A nL cc own) {index : Nat} {v : Int64} (w : Cond.constantLong own index v ∈ TB) (d : decode cc pc = .ok (.ldc2_w index, 3)) (hn : pc + 3 = n) (k : G p l e R s m args below meth c D A nL Q cells slots L M n lv (.long v :: st)) : G p l e R s m args below meth c D A nL Q cells slots L M pc lv (st) := by
  intro H locs ls hP hD hS hl
  subst hn
  exact lv_ldc2 X.1.1 X.1.2.1 X.1.2.2.2.1 (X.1.2.2.2.2 _ w) d (k H locs ls hP hD hS hl)
theorem g_lconst (X : Fx p s m args meth c D ca A nL cc own) {z : Fin 2} {v : Int64} (hv : Int64.ofNat (z : Nat) = v) (d : decode cc pc = .ok (.lconst z, 1)) (hn : pc + 1 = n) (k : G p l e R s m args below meth c D A nL Q cells slots L M n lv (.long v :: st)) : G p l e R s m args below meth c D A nL Q cells slots L M pc lv (st) := by
  intro H locs ls hP hD hS hl
  subst hn
  exact lv_lconst X.1.1 X.1.2.1 d hv (k H locs ls hP hD hS hl)
theorem g_iload_n (X : Fx p s m args meth c D ca A nL cc own) {i : Fin 4} {x : Int32} (q : Nat) (hq : lv[q]? = some ((i : Nat), .int x)) (d : decode cc pc = .ok (.iload_n i, 1)) (hn : pc + 1 = n) (k : G p l e R s m args below meth c D A nL Q cells slots L M n lv (.int x :: st)) : G p l e R s m args below meth c D A nL Q cells slots L M pc lv (st) := by
  intro H locs ls hP hD hS hl
  subst hn
  exact lv_iload_n X.1.1 X.1.2.1 d rfl (lv_at hl q hq) (k H locs ls hP hD hS hl)
theorem g_iload (X : Fx p s m args meth c D ca A nL cc own) {i : Nat} {x : Int32} (q : Nat) (hq : lv[q]? = some (i, .int x)) (d : decode cc pc = .ok (.iload i, 2)) (hn : pc + 2 = n) (k : G p l e R s m args below meth c D A nL Q cells slots L M n lv (.int x :: st)) : G p l e R s m args below meth c D A nL Q cells slots L M pc lv (st) := by
  intro H locs ls hP hD hS hl
  subst hn
  exact lv_iload X.1.1 X.1.2.1 d (lv_at hl q hq) (k H locs ls hP hD hS hl)
theorem g_aload_n (X : Fx p s m args meth c D ca A nL cc own) {i : Fin 4} {x : Nat} (q : Nat) (hq : lv[q]? = some ((i : Nat), .ref x)) (d : decode cc pc = .ok (.aload_n i, 1)) (hn : pc + 1 = n) (k : G p l e R s m args below meth c D A nL Q cells slots L M n lv (.ref x :: st)) : G p l e R s m args below meth c D A nL Q cells slots L M pc lv (st) := by
  intro H locs ls hP hD hS hl
  subst hn
  exact lv_aload_n X.1.1 X.1.2.1 d rfl (lv_at hl q hq) (k H locs ls hP hD hS hl)
theorem g_aload (X : Fx p s m args meth c D ca A nL cc own) {i : Nat} {x : Nat} (q : Nat) (hq : lv[q]? = some (i, .ref x)) (d : decode cc pc = .ok (.aload i, 2)) (hn : pc + 2 = n) (k : G p l e R s m args below meth c D A nL Q cells slots L M n lv (.ref x :: st)) : G p l e R s m args below meth c D A nL Q cells slots L M pc lv (st) := by
  intro H locs ls hP hD hS hl
  subst hn
  exact lv_aload X.1.1 X.1.2.1 d (lv_at hl q hq) (k H locs ls hP hD hS hl)
theorem g_lload_n (X : Fx p s m args meth c D ca A nL cc own) {i : Fin 4} {x : Int64} (q : Nat) (hq : lv[q]? = some ((i : Nat), .long x)) (d : decode cc pc = .ok (.lload_n i, 1)) (hn : pc + 1 = n) (k : G p l e R s m args below meth c D A nL Q cells slots L M n lv (.long x :: st)) : G p l e R s m args below meth c D A nL Q cells slots L M pc lv (st) := by
  intro H locs ls hP hD hS hl
  subst hn
  exact lv_lload_n X.1.1 X.1.2.1 d rfl (lv_at hl q hq) (k H locs ls hP hD hS hl)
theorem g_lload (X : Fx p s m args meth c D ca A nL cc own) {i : Nat} {x : Int64} (q : Nat) (hq : lv[q]? = some (i, .long x)) (d : decode cc pc = .ok (.lload i, 2)) (hn : pc + 2 = n) (k : G p l e R s m args below meth c D A nL Q cells slots L M n lv (.long x :: st)) : G p l e R s m args below meth c D A nL Q cells slots L M pc lv (st) := by
  intro H locs ls hP hD hS hl
  subst hn
  exact lv_lload X.1.1 X.1.2.1 d (lv_at hl q hq) (k H locs ls hP hD hS hl)
theorem g_istore_n (X : Fx p s m args meth c D ca A nL cc own) {i : Fin 4} {x : Int32} {lv' : List (Nat × Value)} (hi : (i : Nat) < nL) (hlv : ((i : Nat), Value.int x) :: lv.filter (fun q => !(q.1 == (i : Nat)) && !(q.1 + 1 == (i : Nat) && q.2.category == 2)) = lv') (d : decode cc pc = .ok (.istore_n i, 1)) (hn : pc + 1 = n) (k : G p l e R s m args below meth c D A nL Q cells slots L M n lv' (st)) : G p l e R s m args below meth c D A nL Q cells slots L M pc lv (.int x :: st) := by
  intro H locs ls hP hD hS hl
  subst hn
  exact lv_istore_n X.1.1 X.1.2.1 d rfl hl hi hlv (fun ls' hl' => k H locs ls' hP hD hS hl')
theorem g_istore (X : Fx p s m args meth c D ca A nL cc own) {i : Nat} {x : Int32} {lv' : List (Nat × Value)} (hi : i < nL) (hlv : (i, Value.int x) :: lv.filter (fun q => !(q.1 == i) && !(q.1 + 1 == i && q.2.category == 2)) = lv') (d : decode cc pc = .ok (.istore i, 2)) (hn : pc + 2 = n) (k : G p l e R s m args below meth c D A nL Q cells slots L M n lv' (st)) : G p l e R s m args below meth c D A nL Q cells slots L M pc lv (.int x :: st) := by
  intro H locs ls hP hD hS hl
  subst hn
  exact lv_istore X.1.1 X.1.2.1 d hl hi hlv (fun ls' hl' => k H locs ls' hP hD hS hl')
theorem g_astore_n (X : Fx p s m args meth c D ca A nL cc own) {i : Fin 4} {x : Nat} {lv' : List (Nat × Value)} (hi : (i : Nat) < nL) (hlv : ((i : Nat), Value.ref x) :: lv.filter (fun q => !(q.1 == (i : Nat)) && !(q.1 + 1 == (i : Nat) && q.2.category == 2)) = lv') (d : decode cc pc = .ok (.astore_n i, 1)) (hn : pc + 1 = n) (k : G p l e R s m args below meth c D A nL Q cells slots L M n lv' (st)) : G p l e R s m args below meth c D A nL Q cells slots L M pc lv (.ref x :: st) := by
  intro H locs ls hP hD hS hl
  subst hn
  exact lv_astore_n X.1.1 X.1.2.1 d rfl hl hi hlv (fun ls' hl' => k H locs ls' hP hD hS hl')
theorem g_astore (X : Fx p s m args meth c D ca A nL cc own) {i : Nat} {x : Nat} {lv' : List (Nat × Value)} (hi : i < nL) (hlv : (i, Value.ref x) :: lv.filter (fun q => !(q.1 == i) && !(q.1 + 1 == i && q.2.category == 2)) = lv') (d : decode cc pc = .ok (.astore i, 2)) (hn : pc + 2 = n) (k : G p l e R s m args below meth c D A nL Q cells slots L M n lv' (st)) : G p l e R s m args below meth c D A nL Q cells slots L M pc lv (.ref x :: st) := by
  intro H locs ls hP hD hS hl
  subst hn
  exact lv_astore X.1.1 X.1.2.1 d hl hi hlv (fun ls' hl' => k H locs ls' hP hD hS hl')
theorem g_lstore_n (X : Fx p s m args meth c D ca A nL cc own) {i : Fin 4} {x : Int64} {lv' : List (Nat × Value)} (hi : (i : Nat) + 1 < nL) (hlv : ((i : Nat), Value.long x) :: lv.filter (fun q => !(q.1 == (i : Nat)) && (!(q.1 == (i : Nat) + 1) && !(q.1 + 1 == (i : Nat) && q.2.category == 2))) = lv') (d : decode cc pc = .ok (.lstore_n i, 1)) (hn : pc + 1 = n) (k : G p l e R s m args below meth c D A nL Q cells slots L M n lv' (st)) : G p l e R s m args below meth c D A nL Q cells slots L M pc lv (.long x :: st) := by
  intro H locs ls hP hD hS hl
  subst hn
  exact lv_lstore_n X.1.1 X.1.2.1 d rfl hl hi hlv (fun ls' hl' => k H locs ls' hP hD hS hl')
theorem g_lstore (X : Fx p s m args meth c D ca A nL cc own) {i : Nat} {x : Int64} {lv' : List (Nat × Value)} (hi : i + 1 < nL) (hlv : (i, Value.long x) :: lv.filter (fun q => !(q.1 == i) && (!(q.1 == i + 1) && !(q.1 + 1 == i && q.2.category == 2))) = lv') (d : decode cc pc = .ok (.lstore i, 2)) (hn : pc + 2 = n) (k : G p l e R s m args below meth c D A nL Q cells slots L M n lv' (st)) : G p l e R s m args below meth c D A nL Q cells slots L M pc lv (.long x :: st) := by
  intro H locs ls hP hD hS hl
  subst hn
  exact lv_lstore X.1.1 X.1.2.1 d hl hi hlv (fun ls' hl' => k H locs ls' hP hD hS hl')
theorem g_iinc (X : Fx p s m args meth c D ca A nL cc own) {i : Nat} {z x : Int} {lv' : List (Nat × Value)} (q : Nat) (hq : lv[q]? = some (i, .int (iI x))) (hi : i < nL) (hlv : (i, Value.int (iI (x + z))) :: lv.filter (fun q => !(q.1 == i) && !(q.1 + 1 == i && q.2.category == 2)) = lv') (d : decode cc pc = .ok (.iinc i z, 3)) (hn : pc + 3 = n) (k : G p l e R s m args below meth c D A nL Q cells slots L M n lv' (st)) : G p l e R s m args below meth c D A nL Q cells slots L M pc lv (st) := by
  intro H locs ls hP hD hS hl
  subst hn
  exact lv_iinc X.1.1 X.1.2.1 d hl (k := q) hq (iI_add x z) hi hlv (fun ls' hl' => k H locs ls' hP hD hS hl')
theorem g_iadd (X : Fx p s m args meth c D ca A nL cc own) {a b : Int} (d : decode cc pc = .ok (.iadd, 1)) (hn : pc + 1 = n) (k : G p l e R s m args below meth c D A nL Q cells slots L M n lv (.int (iI (a + b)) :: st)) : G p l e R s m args below meth c D A nL Q cells slots L M pc lv (.int (iI b) :: .int (iI a) :: st) := by
  intro H locs ls hP hD hS hl
  subst hn
  exact lv_iadd X.1.1 X.1.2.1 d (by rw [iI_add]; exact k H locs ls hP hD hS hl)
theorem g_isub (X : Fx p s m args meth c D ca A nL cc own) {a b : Int} (d : decode cc pc = .ok (.isub, 1)) (hn : pc + 1 = n) (k : G p l e R s m args below meth c D A nL Q cells slots L M n lv (.int (iI (a - b)) :: st)) : G p l e R s m args below meth c D A nL Q cells slots L M pc lv (.int (iI b) :: .int (iI a) :: st) := by
  intro H locs ls hP hD hS hl
  subst hn
  exact lv_isub X.1.1 X.1.2.1 d (by rw [iI_sub]; exact k H locs ls hP hD hS hl)
theorem g_imul (X : Fx p s m args meth c D ca A nL cc own) {a b : Int} (d : decode cc pc = .ok (.imul, 1)) (hn : pc + 1 = n) (k : G p l e R s m args below meth c D A nL Q cells slots L M n lv (.int (iI (a * b)) :: st)) : G p l e R s m args below meth c D A nL Q cells slots L M pc lv (.int (iI b) :: .int (iI a) :: st) := by
  intro H locs ls hP hD hS hl
  subst hn
  exact lv_imul X.1.1 X.1.2.1 d (by rw [iI_mul]; exact k H locs ls hP hD hS hl)
theorem g_idiv (X : Fx p s m args meth c D ca A nL cc own) {a b : Int} (h : (0 ≤ a ∧ a < 2147483648) ∧ 0 < b ∧ b < 2147483648) (d : decode cc pc = .ok (.idiv, 1)) (hn : pc + 1 = n) (k : G p l e R s m args below meth c D A nL Q cells slots L M n lv (.int (iI (a / b)) :: st)) : G p l e R s m args below meth c D A nL Q cells slots L M pc lv (.int (iI b) :: .int (iI a) :: st) := by
  intro H locs ls hP hD hS hl
  subst hn
  exact lv_idiv X.1.1 X.1.2.1 d (iI_ne0 h.2.1 h.2.2) (by rw [iI_div h.1.1 h.1.2 h.2.1 h.2.2]; exact k H locs ls hP hD hS hl)
theorem g_irem (X : Fx p s m args meth c D ca A nL cc own) {a b : Int} (h : (0 ≤ a ∧ a < 2147483648) ∧ 0 < b ∧ b < 2147483648) (d : decode cc pc = .ok (.irem, 1)) (hn : pc + 1 = n) (k : G p l e R s m args below meth c D A nL Q cells slots L M n lv (.int (iI (a % b)) :: st)) : G p l e R s m args below meth c D A nL Q cells slots L M pc lv (.int (iI b) :: .int (iI a) :: st) := by
  intro H locs ls hP hD hS hl
  subst hn
  exact lv_irem X.1.1 X.1.2.1 d (iI_ne0 h.2.1 h.2.2) (by rw [iI_rem h.1.1 h.1.2 h.2.1 h.2.2]; exact k H locs ls hP hD hS hl)
theorem g_iand (X : Fx p s m args meth c D ca A nL cc own) {x y v : Int32} (hv : x &&& y = v) (d : decode cc pc = .ok (.iand, 1)) (hn : pc + 1 = n) (k : G p l e R s m args below meth c D A nL Q cells slots L M n lv (.int v :: st)) : G p l e R s m args below meth c D A nL Q cells slots L M pc lv (.int y :: .int x :: st) := by
  intro H locs ls hP hD hS hl
  subst hn
  exact lv_iand X.1.1 X.1.2.1 d (hv ▸ k H locs ls hP hD hS hl)
theorem g_ior (X : Fx p s m args meth c D ca A nL cc own) {x y v : Int32} (hv : x ||| y = v) (d : decode cc pc = .ok (.ior, 1)) (hn : pc + 1 = n) (k : G p l e R s m args below meth c D A nL Q cells slots L M n lv (.int v :: st)) : G p l e R s m args below meth c D A nL Q cells slots L M pc lv (.int y :: .int x :: st) := by
  intro H locs ls hP hD hS hl
  subst hn
  exact lv_ior X.1.1 X.1.2.1 d (hv ▸ k H locs ls hP hD hS hl)
theorem g_ishl (X : Fx p s m args meth c D ca A nL cc own) {x y v : Int32} (hv : x <<< (y &&& 31) = v) (d : decode cc pc = .ok (.ishl, 1)) (hn : pc + 1 = n) (k : G p l e R s m args below meth c D A nL Q cells slots L M n lv (.int v :: st)) : G p l e R s m args below meth c D A nL Q cells slots L M pc lv (.int y :: .int x :: st) := by
  intro H locs ls hP hD hS hl
  subst hn
  exact lv_ishl X.1.1 X.1.2.1 d (hv ▸ k H locs ls hP hD hS hl)
theorem g_ishr (X : Fx p s m args meth c D ca A nL cc own) {x y v : Int32} (hv : x >>> (y &&& 31) = v) (d : decode cc pc = .ok (.ishr, 1)) (hn : pc + 1 = n) (k : G p l e R s m args below meth c D A nL Q cells slots L M n lv (.int v :: st)) : G p l e R s m args below meth c D A nL Q cells slots L M pc lv (.int y :: .int x :: st) := by
  intro H locs ls hP hD hS hl
  subst hn
  exact lv_ishr X.1.1 X.1.2.1 d (hv ▸ k H locs ls hP hD hS hl)
theorem g_land (X : Fx p s m args meth c D ca A nL cc own) {x y v : Int64} (hv : x &&& y = v) (d : decode cc pc = .ok (.land, 1)) (hn : pc + 1 = n) (k : G p l e R s m args below meth c D A nL Q cells slots L M n lv (.long v :: st)) : G p l e R s m args below meth c D A nL Q cells slots L M pc lv (.long y :: .long x :: st) := by
  intro H locs ls hP hD hS hl
  subst hn
  exact lv_land X.1.1 X.1.2.1 d (hv ▸ k H locs ls hP hD hS hl)
theorem g_lor (X : Fx p s m args meth c D ca A nL cc own) {x y v : Int64} (hv : x ||| y = v) (d : decode cc pc = .ok (.lor, 1)) (hn : pc + 1 = n) (k : G p l e R s m args below meth c D A nL Q cells slots L M n lv (.long v :: st)) : G p l e R s m args below meth c D A nL Q cells slots L M pc lv (.long y :: .long x :: st) := by
  intro H locs ls hP hD hS hl
  subst hn
  exact lv_lor X.1.1 X.1.2.1 d (hv ▸ k H locs ls hP hD hS hl)
theorem g_lshl (X : Fx p s m args meth c D ca A nL cc own) {x v : Int64} {y : Int32} (hv : x <<< (y.toInt64 &&& 63) = v) (d : decode cc pc = .ok (.lshl, 1)) (hn : pc + 1 = n) (k : G p l e R s m args below meth c D A nL Q cells slots L M n lv (.long v :: st)) : G p l e R s m args below meth c D A nL Q cells slots L M pc lv (.int y :: .long x :: st) := by
  intro H locs ls hP hD hS hl
  subst hn
  exact lv_lshl X.1.1 X.1.2.1 d hv (k H locs ls hP hD hS hl)
theorem g_lushr (X : Fx p s m args meth c D ca A nL cc own) {x v : Int64} {y : Int32} (hv : (x.toUInt64 >>> (y.toInt64.toUInt64 &&& Int64.toUInt64 63)).toInt64 = v) (d : decode cc pc = .ok (.lushr, 1)) (hn : pc + 1 = n) (k : G p l e R s m args below meth c D A nL Q cells slots L M n lv (.long v :: st)) : G p l e R s m args below meth c D A nL Q cells slots L M pc lv (.int y :: .long x :: st) := by
  intro H locs ls hP hD hS hl
  subst hn
  exact lv_lushr X.1.1 X.1.2.1 d hv (k H locs ls hP hD hS hl)
theorem g_i2l (X : Fx p s m args meth c D ca A nL cc own) {x : Int32} {v : Int64} (hv : x.toInt64 = v) (d : decode cc pc = .ok (.i2l, 1)) (hn : pc + 1 = n) (k : G p l e R s m args below meth c D A nL Q cells slots L M n lv (.long v :: st)) : G p l e R s m args below meth c D A nL Q cells slots L M pc lv (.int x :: st) := by
  intro H locs ls hP hD hS hl
  subst hn
  exact lv_i2l X.1.1 X.1.2.1 d hv (k H locs ls hP hD hS hl)
theorem g_l2i (X : Fx p s m args meth c D ca A nL cc own) {x : Int64} {v : Int32} (hv : x.toInt32 = v) (d : decode cc pc = .ok (.l2i, 1)) (hn : pc + 1 = n) (k : G p l e R s m args below meth c D A nL Q cells slots L M n lv (.int v :: st)) : G p l e R s m args below meth c D A nL Q cells slots L M pc lv (.long x :: st) := by
  intro H locs ls hP hD hS hl
  subst hn
  exact lv_l2i X.1.1 X.1.2.1 d hv (k H locs ls hP hD hS hl)
theorem g_i2c (X : Fx p s m args meth c D ca A nL cc own) {x v : Int32} (hv : (x.toUInt32 % 65536).toInt32 = v) (d : decode cc pc = .ok (.i2c, 1)) (hn : pc + 1 = n) (k : G p l e R s m args below meth c D A nL Q cells slots L M n lv (.int v :: st)) : G p l e R s m args below meth c D A nL Q cells slots L M pc lv (.int x :: st) := by
  intro H locs ls hP hD hS hl
  subst hn
  exact lv_i2c X.1.1 X.1.2.1 d hv (k H locs ls hP hD hS hl)
theorem g_lcmp (X : Fx p s m args meth c D ca A nL cc own) {x y : Int64} (d : decode cc pc = .ok (.lcmp, 1)) (hn : pc + 1 = n) (k : G p l e R s m args below meth c D A nL Q cells slots L M n lv (.int (lg_cmp x y) :: st)) : G p l e R s m args below meth c D A nL Q cells slots L M pc lv (.long y :: .long x :: st) := by
  intro H locs ls hP hD hS hl
  subst hn
  exact W.lcmp X.1.1 X.1.2.1 d (k H locs ls hP hD hS hl)
theorem g_pop (X : Fx p s m args meth c D ca A nL cc own) {va : Value} (hva : va.category = 1) (d : decode cc pc = .ok (.pop, 1)) (hn : pc + 1 = n) (k : G p l e R s m args below meth c D A nL Q cells slots L M n lv (st)) : G p l e R s m args below meth c D A nL Q cells slots L M pc lv (va :: st) := by
  intro H locs ls hP hD hS hl
  subst hn
  exact lv_pop X.1.1 X.1.2.1 d hva (k H locs ls hP hD hS hl)
theorem g_dup (X : Fx p s m args meth c D ca A nL cc own) {va : Value} (hva : va.category = 1) (d : decode cc pc = .ok (.dup, 1)) (hn : pc + 1 = n) (k : G p l e R s m args below meth c D A nL Q cells slots L M n lv (va :: va :: st)) : G p l e R s m args below meth c D A nL Q cells slots L M pc lv (va :: st) := by
  intro H locs ls hP hD hS hl
  subst hn
  exact lv_dup X.1.1 X.1.2.1 d hva (k H locs ls hP hD hS hl)
theorem g_dup2 (X : Fx p s m args meth c D ca A nL cc own) {va vb : Value} (hva : va.category = 1) (hvb : vb.category = 1) (d : decode cc pc = .ok (.dup2, 1)) (hn : pc + 1 = n) (k : G p l e R s m args below meth c D A nL Q cells slots L M n lv (va :: vb :: va :: vb :: st)) : G p l e R s m args below meth c D A nL Q cells slots L M pc lv (va :: vb :: st) := by
  intro H locs ls hP hD hS hl
  subst hn
  exact lv_dup2_11 X.1.1 X.1.2.1 d hva hvb (k H locs ls hP hD hS hl)
theorem g_goto (X : Fx p s m args meth c D ca A nL cc own) {off : Int} (d : decode cc pc = .ok (.goto off, 3)) (hn : (pc : Int) + off = (n : Int)) (k : G p l e R s m args below meth c D A nL Q cells slots L M n lv st) : G p l e R s m args below meth c D A nL Q cells slots L M pc lv st := fun H locs ls hP hD hS hl => lv_goto X.1.1 X.1.2.1 d hn (k H locs ls hP hD hS hl)
theorem g_icmp_eq (X : Fx p s m args meth c D ca A nL cc own) {a b : Int} {off : Int} {tgt : Nat} (ha : R32 a) (hb : R32 b) (d : decode cc pc = .ok (.if_icmp .eq off, 3)) (ht : (pc : Int) + off = (tgt : Int)) (hn : pc + 3 = n) (kt : a = b → G p l e R s m args below meth c D A nL Q cells slots L M tgt lv st) (kf : ¬ (a = b) → G p l e R s m args below meth c D A nL Q cells slots L M n lv st) : G p l e R s m args below meth c D A nL Q cells slots L M pc lv (.int (iI b) :: .int (iI a) :: st) := by
  intro H locs ls hP hD hS hl
  subst hn
  refine lv_icmp_eq X.1.1 X.1.2.1 d ht (fun h => ?_) (fun h => ?_)
  · exact kt ((iI_eq ha hb).mp h) H locs ls hP hD hS hl
  · exact kf (fun q => h ((iI_eq ha hb).mpr q)) H locs ls hP hD hS hl
theorem g_if_eq (X : Fx p s m args meth c D ca A nL cc own) {a : Int} {off : Int} {tgt : Nat} (ha : R32 a) (d : decode cc pc = .ok (.ifCond .eq off, 3)) (ht : (pc : Int) + off = (tgt : Int)) (hn : pc + 3 = n) (kt : a = 0 → G p l e R s m args below meth c D A nL Q cells slots L M tgt lv st) (kf : ¬ (a = 0) → G p l e R s m args below meth c D A nL Q cells slots L M n lv st) : G p l e R s m args below meth c D A nL Q cells slots L M pc lv (.int (iI a) :: st) := by
  intro H locs ls hP hD hS hl
  subst hn
  refine lv_if_eq X.1.1 X.1.2.1 d ht (fun h => ?_) (fun h => ?_)
  · rw [iI_zero] at h; exact kt ((iI_eq ha r32_zero).mp h) H locs ls hP hD hS hl
  · rw [iI_zero] at h; exact kf (fun q => h ((iI_eq ha r32_zero).mpr q)) H locs ls hP hD hS hl
theorem g_icmp_ne (X : Fx p s m args meth c D ca A nL cc own) {a b : Int} {off : Int} {tgt : Nat} (ha : R32 a) (hb : R32 b) (d : decode cc pc = .ok (.if_icmp .ne off, 3)) (ht : (pc : Int) + off = (tgt : Int)) (hn : pc + 3 = n) (kt : a ≠ b → G p l e R s m args below meth c D A nL Q cells slots L M tgt lv st) (kf : ¬ (a ≠ b) → G p l e R s m args below meth c D A nL Q cells slots L M n lv st) : G p l e R s m args below meth c D A nL Q cells slots L M pc lv (.int (iI b) :: .int (iI a) :: st) := by
  intro H locs ls hP hD hS hl
  subst hn
  refine lv_icmp_ne X.1.1 X.1.2.1 d ht (fun h => ?_) (fun h => ?_)
  · exact kt (fun q => h ((iI_eq ha hb).mpr q)) H locs ls hP hD hS hl
  · exact kf (fun q => q ((iI_eq ha hb).mp h)) H locs ls hP hD hS hl
theorem g_if_ne (X : Fx p s m args meth c D ca A nL cc own) {a : Int} {off : Int} {tgt : Nat} (ha : R32 a) (d : decode cc pc = .ok (.ifCond .ne off, 3)) (ht : (pc : Int) + off = (tgt : Int)) (hn : pc + 3 = n) (kt : a ≠ 0 → G p l e R s m args below meth c D A nL Q cells slots L M tgt lv st) (kf : ¬ (a ≠ 0) → G p l e R s m args below meth c D A nL Q cells slots L M n lv st) : G p l e R s m args below meth c D A nL Q cells slots L M pc lv (.int (iI a) :: st) := by
  intro H locs ls hP hD hS hl
  subst hn
  refine lv_if_ne X.1.1 X.1.2.1 d ht (fun h => ?_) (fun h => ?_)
  · rw [iI_zero] at h; exact kt (fun q => h ((iI_eq ha r32_zero).mpr q)) H locs ls hP hD hS hl
  · rw [iI_zero] at h; exact kf (fun q => q ((iI_eq ha r32_zero).mp h)) H locs ls hP hD hS hl
theorem g_icmp_lt (X : Fx p s m args meth c D ca A nL cc own) {a b : Int} {off : Int} {tgt : Nat} (ha : R32 a) (hb : R32 b) (d : decode cc pc = .ok (.if_icmp .lt off, 3)) (ht : (pc : Int) + off = (tgt : Int)) (hn : pc + 3 = n) (kt : a < b → G p l e R s m args below meth c D A nL Q cells slots L M tgt lv st) (kf : ¬ (a < b) → G p l e R s m args below meth c D A nL Q cells slots L M n lv st) : G p l e R s m args below meth c D A nL Q cells slots L M pc lv (.int (iI b) :: .int (iI a) :: st) := by
  intro H locs ls hP hD hS hl
  subst hn
  refine lv_icmp_lt X.1.1 X.1.2.1 d ht (fun h => ?_) (fun h => ?_)
  · exact kt ((iI_lt ha hb).mp h) H locs ls hP hD hS hl
  · exact kf (fun q => h ((iI_lt ha hb).mpr q)) H locs ls hP hD hS hl
theorem g_if_lt (X : Fx p s m args meth c D ca A nL cc own) {a : Int} {off : Int} {tgt : Nat} (ha : R32 a) (d : decode cc pc = .ok (.ifCond .lt off, 3)) (ht : (pc : Int) + off = (tgt : Int)) (hn : pc + 3 = n) (kt : a < 0 → G p l e R s m args below meth c D A nL Q cells slots L M tgt lv st) (kf : ¬ (a < 0) → G p l e R s m args below meth c D A nL Q cells slots L M n lv st) : G p l e R s m args below meth c D A nL Q cells slots L M pc lv (.int (iI a) :: st) := by
  intro H locs ls hP hD hS hl
  subst hn
  refine lv_if_lt X.1.1 X.1.2.1 d ht (fun h => ?_) (fun h => ?_)
  · rw [iI_zero] at h; exact kt ((iI_lt ha r32_zero).mp h) H locs ls hP hD hS hl
  · rw [iI_zero] at h; exact kf (fun q => h ((iI_lt ha r32_zero).mpr q)) H locs ls hP hD hS hl
theorem g_icmp_le (X : Fx p s m args meth c D ca A nL cc own) {a b : Int} {off : Int} {tgt : Nat} (ha : R32 a) (hb : R32 b) (d : decode cc pc = .ok (.if_icmp .le off, 3)) (ht : (pc : Int) + off = (tgt : Int)) (hn : pc + 3 = n) (kt : a ≤ b → G p l e R s m args below meth c D A nL Q cells slots L M tgt lv st) (kf : ¬ (a ≤ b) → G p l e R s m args below meth c D A nL Q cells slots L M n lv st) : G p l e R s m args below meth c D A nL Q cells slots L M pc lv (.int (iI b) :: .int (iI a) :: st) := by
  intro H locs ls hP hD hS hl
  subst hn
  refine lv_icmp_le X.1.1 X.1.2.1 d ht (fun h => ?_) (fun h => ?_)
  · exact kt ((iI_le ha hb).mp h) H locs ls hP hD hS hl
  · exact kf (fun q => h ((iI_le ha hb).mpr q)) H locs ls hP hD hS hl
theorem g_if_le (X : Fx p s m args meth c D ca A nL cc own) {a : Int} {off : Int} {tgt : Nat} (ha : R32 a) (d : decode cc pc = .ok (.ifCond .le off, 3)) (ht : (pc : Int) + off = (tgt : Int)) (hn : pc + 3 = n) (kt : a ≤ 0 → G p l e R s m args below meth c D A nL Q cells slots L M tgt lv st) (kf : ¬ (a ≤ 0) → G p l e R s m args below meth c D A nL Q cells slots L M n lv st) : G p l e R s m args below meth c D A nL Q cells slots L M pc lv (.int (iI a) :: st) := by
  intro H locs ls hP hD hS hl
  subst hn
  refine lv_if_le X.1.1 X.1.2.1 d ht (fun h => ?_) (fun h => ?_)
  · rw [iI_zero] at h; exact kt ((iI_le ha r32_zero).mp h) H locs ls hP hD hS hl
  · rw [iI_zero] at h; exact kf (fun q => h ((iI_le ha r32_zero).mpr q)) H locs ls hP hD hS hl
theorem g_icmp_gt (X : Fx p s m args meth c D ca A nL cc own) {a b : Int} {off : Int} {tgt : Nat} (ha : R32 a) (hb : R32 b) (d : decode cc pc = .ok (.if_icmp .gt off, 3)) (ht : (pc : Int) + off = (tgt : Int)) (hn : pc + 3 = n) (kt : b < a → G p l e R s m args below meth c D A nL Q cells slots L M tgt lv st) (kf : ¬ (b < a) → G p l e R s m args below meth c D A nL Q cells slots L M n lv st) : G p l e R s m args below meth c D A nL Q cells slots L M pc lv (.int (iI b) :: .int (iI a) :: st) := by
  intro H locs ls hP hD hS hl
  subst hn
  refine lv_icmp_gt X.1.1 X.1.2.1 d ht (fun h => ?_) (fun h => ?_)
  · exact kt ((iI_lt hb ha).mp h) H locs ls hP hD hS hl
  · exact kf (fun q => h ((iI_lt hb ha).mpr q)) H locs ls hP hD hS hl
theorem g_if_gt (X : Fx p s m args meth c D ca A nL cc own) {a : Int} {off : Int} {tgt : Nat} (ha : R32 a) (d : decode cc pc = .ok (.ifCond .gt off, 3)) (ht : (pc : Int) + off = (tgt : Int)) (hn : pc + 3 = n) (kt : 0 < a → G p l e R s m args below meth c D A nL Q cells slots L M tgt lv st) (kf : ¬ (0 < a) → G p l e R s m args below meth c D A nL Q cells slots L M n lv st) : G p l e R s m args below meth c D A nL Q cells slots L M pc lv (.int (iI a) :: st) := by
  intro H locs ls hP hD hS hl
  subst hn
  refine lv_if_gt X.1.1 X.1.2.1 d ht (fun h => ?_) (fun h => ?_)
  · rw [iI_zero] at h; exact kt ((iI_lt r32_zero ha).mp h) H locs ls hP hD hS hl
  · rw [iI_zero] at h; exact kf (fun q => h ((iI_lt r32_zero ha).mpr q)) H locs ls hP hD hS hl
theorem g_icmp_ge (X : Fx p s m args meth c D ca A nL cc own) {a b : Int} {off : Int} {tgt : Nat} (ha : R32 a) (hb : R32 b) (d : decode cc pc = .ok (.if_icmp .ge off, 3)) (ht : (pc : Int) + off = (tgt : Int)) (hn : pc + 3 = n) (kt : b ≤ a → G p l e R s m args below meth c D A nL Q cells slots L M tgt lv st) (kf : ¬ (b ≤ a) → G p l e R s m args below meth c D A nL Q cells slots L M n lv st) : G p l e R s m args below meth c D A nL Q cells slots L M pc lv (.int (iI b) :: .int (iI a) :: st) := by
  intro H locs ls hP hD hS hl
  subst hn
  refine lv_icmp_ge X.1.1 X.1.2.1 d ht (fun h => ?_) (fun h => ?_)
  · exact kt ((iI_le hb ha).mp h) H locs ls hP hD hS hl
  · exact kf (fun q => h ((iI_le hb ha).mpr q)) H locs ls hP hD hS hl
theorem g_if_ge (X : Fx p s m args meth c D ca A nL cc own) {a : Int} {off : Int} {tgt : Nat} (ha : R32 a) (d : decode cc pc = .ok (.ifCond .ge off, 3)) (ht : (pc : Int) + off = (tgt : Int)) (hn : pc + 3 = n) (kt : 0 ≤ a → G p l e R s m args below meth c D A nL Q cells slots L M tgt lv st) (kf : ¬ (0 ≤ a) → G p l e R s m args below meth c D A nL Q cells slots L M n lv st) : G p l e R s m args below meth c D A nL Q cells slots L M pc lv (.int (iI a) :: st) := by
  intro H locs ls hP hD hS hl
  subst hn
  refine lv_if_ge X.1.1 X.1.2.1 d ht (fun h => ?_) (fun h => ?_)
  · rw [iI_zero] at h; exact kt ((iI_le r32_zero ha).mp h) H locs ls hP hD hS hl
  · rw [iI_zero] at h; exact kf (fun q => h ((iI_le r32_zero ha).mpr q)) H locs ls hP hD hS hl
theorem g_if_eqb (X : Fx p s m args meth c D ca A nL cc own) {c0 : Prop} [Decidable c0] {off : Int} {tgt : Nat} (d : decode cc pc = .ok (.ifCond .eq off, 3)) (ht : (pc : Int) + off = (tgt : Int)) (hn : pc + 3 = n) (kt : ¬ c0 → G p l e R s m args below meth c D A nL Q cells slots L M tgt lv st) (kf : c0 → G p l e R s m args below meth c D A nL Q cells slots L M n lv st) : G p l e R s m args below meth c D A nL Q cells slots L M pc lv (.int (iI (if c0 then 1 else 0)) :: st) := by
  by_cases hc : c0
  · rw [if_pos hc]; exact g_if_eq X ⟨by decide, by decide⟩ d ht hn (fun h => absurd h (by decide)) (fun _ => kf hc)
  · rw [if_neg hc]; exact g_if_eq X ⟨by decide, by decide⟩ d ht hn (fun _ => kt hc) (fun h => absurd rfl h)
theorem g_if_neb (X : Fx p s m args meth c D ca A nL cc own) {c0 : Prop} [Decidable c0] {off : Int} {tgt : Nat} (d : decode cc pc = .ok (.ifCond .ne off, 3)) (ht : (pc : Int) + off = (tgt : Int)) (hn : pc + 3 = n) (kt : c0 → G p l e R s m args below meth c D A nL Q cells slots L M tgt lv st) (kf : ¬ c0 → G p l e R s m args below meth c D A nL Q cells slots L M n lv st) : G p l e R s m args below meth c D A nL Q cells slots L M pc lv (.int (iI (if c0 then 1 else 0)) :: st) := by
  by_cases hc : c0
  · rw [if_pos hc]; exact g_if_ne X ⟨by decide, by decide⟩ d ht hn (fun _ => kt hc) (fun h => absurd (by decide) h)
  · rw [if_neg hc]; exact g_if_ne X ⟨by decide, by decide⟩ d ht hn (fun h => absurd rfl h) (fun _ => kf hc)
theorem g_icmp_same (X : Fx p s m args meth c D ca A nL cc own) {x : Int32} {off : Int} {tgt : Nat} (d : decode cc pc = .ok (.if_icmp .eq off, 3)) (ht : (pc : Int) + off = (tgt : Int)) (kt : G p l e R s m args below meth c D A nL Q cells slots L M tgt lv st) : G p l e R s m args below meth c D A nL Q cells slots L M pc lv (.int x :: .int x :: st) := fun H locs ls hP hD hS hl => lv_icmp_eq X.1.1 X.1.2.1 d ht (fun _ => kt H locs ls hP hD hS hl) (fun h => absurd rfl h)
theorem g_if_raw (X : Fx p s m args meth c D ca A nL cc own) {x : Int32} {off : Int} {tgt : Nat} (d : decode cc pc = .ok (.ifCond .eq off, 3)) (ht : (pc : Int) + off = (tgt : Int)) (hn : pc + 3 = n) (kt : x = 0 → G p l e R s m args below meth c D A nL Q cells slots L M tgt lv st) (kf : ¬ x = 0 → G p l e R s m args below meth c D A nL Q cells slots L M n lv st) : G p l e R s m args below meth c D A nL Q cells slots L M pc lv (.int x :: st) := fun H locs ls hP hD hS hl => lv_if_eq X.1.1 X.1.2.1 d ht (fun h => kt h H locs ls hP hD hS hl) (fun h => hn ▸ kf h H locs ls hP hD hS hl)
theorem g_tsIn (X : Fx p s m args meth c D ca A nL cc own) {dflt lo hi : Int} {offs : Array Int} {len : Nat} {x : Int} {off : Int} {tgt : Nat} (d : decode cc pc = .ok (.tableswitch dflt lo hi offs, len)) (hx : R32 x) (z : Int) (hz : x = z) (h1 : lo ≤ z) (h2 : z ≤ hi) (ho : offs[(z - lo).toNat]? = some off) (ht : (pc : Int) + off = (tgt : Int)) (k : G p l e R s m args below meth c D A nL Q cells slots L M tgt lv st) : G p l e R s m args below meth c D A nL Q cells slots L M pc lv (.int (iI x) :: st) := by
  subst hz
  intro H locs ls hP hD hS hl
  exact lv_tableIn X.1.1 X.1.2.1 d (by rw [iI_toInt hx]; omega) (by rw [iI_toInt hx]; omega) (by rw [iI_toInt hx]; exact ho) ht (k H locs ls hP hD hS hl)
theorem g_tsOut (X : Fx p s m args meth c D ca A nL cc own) {dflt lo hi : Int} {offs : Array Int} {len : Nat} {x : Int} {tgt : Nat} (d : decode cc pc = .ok (.tableswitch dflt lo hi offs, len)) (hx : R32 x) (h1 : x < lo ∨ hi < x) (ht : (pc : Int) + dflt = (tgt : Int)) (k : G p l e R s m args below meth c D A nL Q cells slots L M tgt lv st) : G p l e R s m args below meth c D A nL Q cells slots L M pc lv (.int (iI x) :: st) := by
  intro H locs ls hP hD hS hl
  exact lv_tableOut X.1.1 X.1.2.1 d (by rw [iI_toInt hx]; exact h1) ht (k H locs ls hP hD hS hl)
theorem g_lv {lv' : List (Nat × Value)} (ks : List Nat) (h : lv_pick lv ks = lv') (k : G p l e R s m args below meth c D A nL Q cells slots L M pc lv' st) : G p l e R s m args below meth c D A nL Q cells slots L M pc lv st := fun H locs ls hP hD hS hl => k H locs ls hP hD hS (lv_sub hl ks h)
theorem g_st {st' : List Value} (h : st = st') (k : G p l e R s m args below meth c D A nL Q cells slots L M pc lv st') : G p l e R s m args below meth c D A nL Q cells slots L M pc lv st := h ▸ k
theorem pl_at {a : Nat} (ha : a ∈ L) : ∃ q0 : Nat, (va_pl L M)[q0]? = some (a, M a) := va_pl_get (X := []) (f := M) ha
theorem pl_set {A0 : Nat → Prop} {a q0 : Nat} {x : va_E} (hD : va_D A0 (va_pl L M)) (ha : a ∈ L) (hq : (va_pl L M)[q0]? = some (a, M a)) : (va_pl L M).set q0 (a, x) = va_pl L (va_up M a x) := va_pl_set (X := []) hD ha hq
def Cls (ci : Nat) (C : String) (T : u_T) (N : Nat) (ty : Nat → FieldType) : Prop := (∀ w ∈ u_ws C T N, w ∈ TB) ∧ vwCl[ci]? = some (C, T, N) ∧ (∀ k, k < N → parseFieldDescriptor (T k).2.2.1 = some (ty k)) ∧ (∀ a, a < N → ∀ b, b < N → a ≠ b → (T a).2.1 ≠ (T b).2.1)
theorem cl_X0 : Cls 0 RX0 TX0 4 tyX0 := ⟨uw_X0, rfl, tyX0_ok, nmX0⟩
theorem cl_X1 : Cls 1 RX1 TX1 2 tyX1 := ⟨uw_X1, rfl, tyX1_ok, nmX1⟩
theorem cl_X2 : Cls 2 RX2 TX2 4 tyX2 := ⟨uw_X2, rfl, tyX2_ok, nmX2⟩
theorem cl_X3 : Cls 3 RX3 TX3 5 tyX3 := ⟨uw_X3, rfl, tyX3_ok, nmX3⟩
theorem cl_X4 : Cls 4 RX4 TX4 8 tyX4 := ⟨uw_X4, rfl, tyX4_ok, nmX4⟩
theorem cl_X5 : Cls 5 RX5 TX5 6 tyX5 := ⟨uw_X5, rfl, tyX5_ok, nmX5⟩
theorem g_get (X : Fx p s m args meth c D ca A nL cc own) {ref C : String} {T : u_T} {N ci index a : Nat} {ty : Nat → FieldType} {fs : List Value} {v : Value} (hc : Cls ci C T N ty) (k : Nat) (hk : k < N) (hlink : Cond.fieldLink own index ref (T k).2.1 (T k).2.2.1 ∈ TB) (href : (T k).1 = ref) (ha : a ∈ L) (hM : M a = .inr (ci, fs)) (hv : fs[k]? = some v) (d : decode cc pc = .ok (.getfield index, 3)) (hn : pc + 3 = n) (kk : G p l e R s m args below meth c D A nL Q cells slots L M n lv (v :: st)) : G p l e R s m args below meth c D A nL Q cells slots L M pc lv (.ref a :: st) := by
  intro H locs ls hP hD hS hl
  subst hn
  obtain ⟨q0, hq⟩ := pl_at (M := M) ha
  rw [hM] at hq
  exact va_get X.1.1 X.1.2.1 X.1.2.2.2.2 hc.1 X.1.2.2.2.1 X.2.1 hP q0 hq hc.2.1 k hk (X.1.2.2.2.2 _ hlink) (fun _ h => href ▸ h) hv d (kk H locs ls hP hD hS hl)
theorem g_getN (X : Fx p s m args meth c D ca A nL cc own) {host : String} {ref C : String} {T : u_T} {N ci index a : Nat} {ty : Nat → FieldType} {fs : List Value} {v : Value} (hc : Cls ci C T N ty) (k : Nat) (hk : k < N) (hlink : Cond.fieldLinkNest own index ref (T k).2.1 (T k).2.2.1 host ∈ NW) (href : (T k).1 = ref) (ha : a ∈ L) (hM : M a = .inr (ci, fs)) (hv : fs[k]? = some v) (d : decode cc pc = .ok (.getfield index, 3)) (hn : pc + 3 = n) (kk : G p l e R s m args below meth c D A nL Q cells slots L M n lv (v :: st)) : G p l e R s m args below meth c D A nL Q cells slots L M pc lv (.ref a :: st) := by
  intro H locs ls hP hD hS hl
  subst hn
  obtain ⟨q0, hq⟩ := pl_at (M := M) ha
  rw [hM] at hq
  exact va_getN X.1.1 X.1.2.1 X.1.2.2.2.2 hc.1 X.1.2.2.2.1 X.2.1 hP q0 hq hc.2.1 k hk (va_Nw.use rfl (X.2.2.1 _ hlink)) (fun _ h => href ▸ h) hv d (kk H locs ls hP hD hS hl)
theorem g_put (X : Fx p s m args meth c D ca A nL cc own) {ref C : String} {T : u_T} {N ci index a : Nat} {ty : Nat → FieldType} {fs : List Value} {v : Value} {fs' : List Value} (hc : Cls ci C T N ty) (k : Nat) (hk : k < N) (hlink : Cond.fieldLink own index ref (T k).2.1 (T k).2.2.1 ∈ TB) (href : (T k).1 = ref) (ha : a ∈ L) (hM : M a = .inr (ci, fs)) (hfin : (T k).2.2.2 = false) (hnar : narrow (ty k) v = v) (hfit : fits (ty k) v = true) (hl0 : k < fs.length) (hfs : fs.set k v = fs') (d : decode cc pc = .ok (.putfield index, 3)) (hn : pc + 3 = n) (kk : ∀ M1 : Mem, M1 a = .inr (ci, fs') → (∀ b, b ≠ a → M1 b = M b) → G p l e R s m args below meth c D A nL Q cells slots L M1 n lv st) : G p l e R s m args below meth c D A nL Q cells slots L M pc lv (v :: .ref a :: st) := by
  intro H locs ls hP hD hS hl
  subst hn
  subst hfs
  obtain ⟨q0, hq0⟩ := pl_at (M := M) ha
  have hq := hq0
  rw [hM] at hq
  refine va_put X.1.1 X.1.2.1 X.1.2.2.2.2 hc.1 ty hc.2.2.1 hc.2.2.2 X.1.2.2.2.1 X.2.1 hP hD hS q0 hq hc.2.1 k hk (X.1.2.2.2.2 _ hlink) (fun _ h => href ▸ h) hfin (hc.2.2.1 k hk) hnar hfit hl0 d (fun H1 locs1 hP1 hD1 hS1 => ?_)
  rw [pl_set hD ha hq0] at hP1 hD1
  exact kk _ (va_up_self _ _ _) (fun b hb => va_up_ne _ _ hb) H1 locs1 ls hP1 hD1 hS1 hl
theorem g_putN (X : Fx p s m args meth c D ca A nL cc own) {host : String} {ref C : String} {T : u_T} {N ci index a : Nat} {ty : Nat → FieldType} {fs : List Value} {v : Value} {fs' : List Value} (hc : Cls ci C T N ty) (k : Nat) (hk : k < N) (hlink : Cond.fieldLinkNest own index ref (T k).2.1 (T k).2.2.1 host ∈ NW) (href : (T k).1 = ref) (ha : a ∈ L) (hM : M a = .inr (ci, fs)) (hfin : (T k).2.2.2 = false) (hnar : narrow (ty k) v = v) (hfit : fits (ty k) v = true) (hl0 : k < fs.length) (hfs : fs.set k v = fs') (d : decode cc pc = .ok (.putfield index, 3)) (hn : pc + 3 = n) (kk : ∀ M1 : Mem, M1 a = .inr (ci, fs') → (∀ b, b ≠ a → M1 b = M b) → G p l e R s m args below meth c D A nL Q cells slots L M1 n lv st) : G p l e R s m args below meth c D A nL Q cells slots L M pc lv (v :: .ref a :: st) := by
  intro H locs ls hP hD hS hl
  subst hn
  subst hfs
  obtain ⟨q0, hq0⟩ := pl_at (M := M) ha
  have hq := hq0
  rw [hM] at hq
  refine va_putN X.1.1 X.1.2.1 X.1.2.2.2.2 hc.1 ty hc.2.2.1 hc.2.2.2 X.1.2.2.2.1 X.2.1 hP hD hS q0 hq hc.2.1 k hk (va_Nw.use rfl (X.2.2.1 _ hlink)) (fun _ h => href ▸ h) hfin (hc.2.2.1 k hk) hnar hfit hl0 d (fun H1 locs1 hP1 hD1 hS1 => ?_)
  rw [pl_set hD ha hq0] at hP1 hD1
  exact kk _ (va_up_self _ _ _) (fun b hb => va_up_ne _ _ hb) H1 locs1 ls hP1 hD1 hS1 hl
theorem g_putF (X : Fx p s m args meth c D ca A nL cc own) {ref C : String} {T : u_T} {N ci index a : Nat} {ty : Nat → FieldType} {fs : List Value} {v : Value} {fs' : List Value} (hc : Cls ci C T N ty) (k : Nat) (hk : k < N) (hlink : Cond.fieldLink own index ref (T k).2.1 (T k).2.2.1 ∈ TB) (href : (T k).1 = ref) (ha : a ∈ L) (hM : M a = .inr (ci, fs)) (hfin : (T k).2.2.2 = true) (hin2 : meth.name = "<init>") (hdecl : (T k).1 = own) (hnar : narrow (ty k) v = v) (hfit : fits (ty k) v = true) (hl0 : k < fs.length) (hfs : fs.set k v = fs') (d : decode cc pc = .ok (.putfield index, 3)) (hn : pc + 3 = n) (kk : ∀ M1 : Mem, M1 a = .inr (ci, fs') → (∀ b, b ≠ a → M1 b = M b) → G p l e R s m args below meth c D A nL Q cells slots L M1 n lv st) : G p l e R s m args below meth c D A nL Q cells slots L M pc lv (v :: .ref a :: st) := by
  intro H locs ls hP hD hS hl
  subst hn
  subst hfs
  obtain ⟨q0, hq0⟩ := pl_at (M := M) ha
  have hq := hq0
  rw [hM] at hq
  refine va_putF X.1.1 X.1.2.1 X.1.2.2.2.2 hc.1 ty hc.2.2.1 hc.2.2.2 X.1.2.2.2.1 X.2.1 hP hD hS q0 hq hc.2.1 k hk (X.1.2.2.2.2 _ hlink) (fun _ h => href ▸ h) hfin hin2 hdecl (hc.2.2.1 k hk) hnar hfit hl0 d (fun H1 locs1 hP1 hD1 hS1 => ?_)
  rw [pl_set hD ha hq0] at hP1 hD1
  exact kk _ (va_up_self _ _ _) (fun b hb => va_up_ne _ _ hb) H1 locs1 ls hP1 hD1 hS1 hl
theorem g_iald (X : Fx p s m args meth c D ca A nL cc own) {a N : Nat} {f : Int → Int} {i : Int} (ha : a ∈ L) (hM : M a = cI ca N f) (hi : 0 ≤ i ∧ i < N) (hN : N < 2147483648) (d : decode cc pc = .ok (.iaload, 1)) (hn : pc + 1 = n) (kk : G p l e R s m args below meth c D A nL Q cells slots L M n lv (.int (iI (f i)) :: st)) : G p l e R s m args below meth c D A nL Q cells slots L M pc lv (.int (iI i) :: .ref a :: st) := by
  intro H locs ls hP hD hS hl
  subst hn
  obtain ⟨q0, hq⟩ := pl_at (M := M) ha
  rw [hM] at hq
  refine va_iald X.1.1 X.1.2.1 X.2.1 hP q0 1 hq rfl (iI_in hi.1 hi.2 hN) d ?_
  rw [trw_at hi.1 hi.2 hN]
  exact kk H locs ls hP hD hS hl
theorem g_cald (X : Fx p s m args meth c D ca A nL cc own) {a N : Nat} {f : Int → Int} {i : Int} (ha : a ∈ L) (hM : M a = cC ca N f) (hi : 0 ≤ i ∧ i < N) (hN : N < 2147483648) (d : decode cc pc = .ok (.caload, 1)) (hn : pc + 1 = n) (kk : G p l e R s m args below meth c D A nL Q cells slots L M n lv (.int (iI (f i)) :: st)) : G p l e R s m args below meth c D A nL Q cells slots L M pc lv (.int (iI i) :: .ref a :: st) := by
  intro H locs ls hP hD hS hl
  subst hn
  obtain ⟨q0, hq⟩ := pl_at (M := M) ha
  rw [hM] at hq
  refine va_cald X.1.1 X.1.2.1 X.2.1 hP q0 0 hq rfl (iI_in hi.1 hi.2 hN) d ?_
  rw [trw_at hi.1 hi.2 hN]
  exact kk H locs ls hP hD hS hl
theorem g_zald (X : Fx p s m args meth c D ca A nL cc own) {a N : Nat} {f : Int → Int} {i : Int} (ha : a ∈ L) (hM : M a = cZ ca N f) (hi : 0 ≤ i ∧ i < N) (hN : N < 2147483648) (d : decode cc pc = .ok (.baload, 1)) (hn : pc + 1 = n) (kk : G p l e R s m args below meth c D A nL Q cells slots L M n lv (.int (iI (f i)) :: st)) : G p l e R s m args below meth c D A nL Q cells slots L M pc lv (.int (iI i) :: .ref a :: st) := by
  intro H locs ls hP hD hS hl
  subst hn
  obtain ⟨q0, hq⟩ := pl_at (M := M) ha
  rw [hM] at hq
  refine va_zald X.1.1 X.1.2.1 X.2.1 hP q0 2 hq rfl (iI_in hi.1 hi.2 hN) d ?_
  rw [trw_at hi.1 hi.2 hN]
  exact kk H locs ls hP hD hS hl
theorem g_iast (X : Fx p s m args meth c D ca A nL cc own) {a N : Nat} {f : Int → Int} {i v : Int} (ha : a ∈ L) (hM : M a = cI ca N f) (hi : 0 ≤ i ∧ i < N) (hN : N < 2147483648) (d : decode cc pc = .ok (.iastore, 1)) (hn : pc + 1 = n) (kk : ∀ M1 : Mem, M1 a = cI ca N (up f i v) → (∀ b, b ≠ a → M1 b = M b) → G p l e R s m args below meth c D A nL Q cells slots L M1 n lv st) : G p l e R s m args below meth c D A nL Q cells slots L M pc lv (.int (iI v) :: .int (iI i) :: .ref a :: st) := by
  intro H locs ls hP hD hS hl
  subst hn
  obtain ⟨q0, hq0⟩ := pl_at (M := M) ha
  have hq := hq0
  rw [hM] at hq
  refine va_iast X.1.1 X.1.2.1 X.2.1 hP hD hS q0 1 hq rfl (iI_in hi.1 hi.2 hN) d (fun H1 locs1 hP1 hD1 hS1 => ?_)
  rw [pl_set hD ha hq0, up_row hi.1 hi.2 hN] at hP1 hD1
  exact kk _ (va_up_self _ _ _) (fun b hb => va_up_ne _ _ hb) H1 locs1 ls hP1 hD1 hS1 hl
theorem g_cast (X : Fx p s m args meth c D ca A nL cc own) {a N : Nat} {f : Int → Int} {i v : Int} (ha : a ∈ L) (hM : M a = cC ca N f) (hi : 0 ≤ i ∧ i < N) (hN : N < 2147483648) (hv : vp_nar .char (iI v) = iI v) (d : decode cc pc = .ok (.castore, 1)) (hn : pc + 1 = n) (kk : ∀ M1 : Mem, M1 a = cC ca N (up f i v) → (∀ b, b ≠ a → M1 b = M b) → G p l e R s m args below meth c D A nL Q cells slots L M1 n lv st) : G p l e R s m args below meth c D A nL Q cells slots L M pc lv (.int (iI v) :: .int (iI i) :: .ref a :: st) := by
  intro H locs ls hP hD hS hl
  subst hn
  obtain ⟨q0, hq0⟩ := pl_at (M := M) ha
  have hq := hq0
  rw [hM] at hq
  refine va_cast X.1.1 X.1.2.1 X.2.1 hP hD hS q0 0 hq rfl (iI_in hi.1 hi.2 hN) d (fun H1 locs1 hP1 hD1 hS1 => ?_)
  rw [hv] at hP1 hD1
  rw [pl_set hD ha hq0, up_row hi.1 hi.2 hN] at hP1 hD1
  exact kk _ (va_up_self _ _ _) (fun b hb => va_up_ne _ _ hb) H1 locs1 ls hP1 hD1 hS1 hl
theorem g_zast (X : Fx p s m args meth c D ca A nL cc own) {a N : Nat} {f : Int → Int} {i v : Int} (ha : a ∈ L) (hM : M a = cZ ca N f) (hi : 0 ≤ i ∧ i < N) (hN : N < 2147483648) (hv : vp_nar .boolean (iI v) = iI v) (d : decode cc pc = .ok (.bastore, 1)) (hn : pc + 1 = n) (kk : ∀ M1 : Mem, M1 a = cZ ca N (up f i v) → (∀ b, b ≠ a → M1 b = M b) → G p l e R s m args below meth c D A nL Q cells slots L M1 n lv st) : G p l e R s m args below meth c D A nL Q cells slots L M pc lv (.int (iI v) :: .int (iI i) :: .ref a :: st) := by
  intro H locs ls hP hD hS hl
  subst hn
  obtain ⟨q0, hq0⟩ := pl_at (M := M) ha
  have hq := hq0
  rw [hM] at hq
  refine va_zast X.1.1 X.1.2.1 X.2.1 hP hD hS q0 2 hq rfl (iI_in hi.1 hi.2 hN) d (fun H1 locs1 hP1 hD1 hS1 => ?_)
  rw [hv] at hP1 hD1
  rw [pl_set hD ha hq0, up_row hi.1 hi.2 hN] at hP1 hD1
  exact kk _ (va_up_self _ _ _) (fun b hb => va_up_ne _ _ hb) H1 locs1 ls hP1 hD1 hS1 hl
theorem g_aald (X : Fx p s m args meth c D ca A nL cc own) {a N t : Nat} {C : String} {f : Int → Option Nat} {i : Int} {v : Nat} (ht : (tyL ca)[t]? = some (ca t, .object C)) (ha : a ∈ L) (hM : M a = cR ca t N f) (hi : 0 ≤ i ∧ i < N) (hN : N < 2147483648) (hv : f i = some v) (d : decode cc pc = .ok (.aaload, 1)) (hn : pc + 1 = n) (kk : G p l e R s m args below meth c D A nL Q cells slots L M n lv (.ref v :: st)) : G p l e R s m args below meth c D A nL Q cells slots L M pc lv (.int (iI i) :: .ref a :: st) := by
  intro H locs ls hP hD hS hl
  subst hn
  obtain ⟨q0, hq⟩ := pl_at (M := M) ha
  rw [hM] at hq
  refine va_aldq X.1.1 X.1.2.1 X.2.1 hP q0 t hq ht (iI_in hi.1 hi.2 hN) d ?_
  show W p l e R s m args below meth c H locs cells slots Q (F0 m (pc + 1) ls (va_rf (f (((iI i).toNatClampNeg : Nat) : Int)) :: st))
  rw [iI_cl hi.1 (by omega), hv]
  exact kk H locs ls hP hD hS hl
theorem g_aast (X : Fx p s m args meth c D ca A nL cc own) {a N t ci v : Nat} {f : Int → Option Nat} {i : Int} {vs : List Value} {r : vw_C} (ht : (tyL ca)[t]? = some (ca t, .object r.1)) (hr : vwCl[ci]? = some r) (ha : a ∈ L) (hM : M a = cR ca t N f) (hb : v ∈ L) (hMv : M v = .inr (ci, vs)) (hi : 0 ≤ i ∧ i < N) (hN : N < 2147483648) (d : decode cc pc = .ok (.aastore, 1)) (hn : pc + 1 = n) (kk : ∀ M1 : Mem, M1 a = cR ca t N (up f i (some v)) → (∀ b, b ≠ a → M1 b = M b) → G p l e R s m args below meth c D A nL Q cells slots L M1 n lv st) : G p l e R s m args below meth c D A nL Q cells slots L M pc lv (.ref v :: .int (iI i) :: .ref a :: st) := by
  intro H locs ls hP hD hS hl
  subst hn
  obtain ⟨q0, hq0⟩ := pl_at (M := M) ha
  have hq := hq0
  rw [hM] at hq
  obtain ⟨q1, hq1⟩ := pl_at (M := M) hb
  rw [hMv] at hq1
  refine va_astq X.1.1 X.1.2.1 X.2.1 hP hD hS q0 t q1 ci hq ht hq1 hr (iI_in hi.1 hi.2 hN) d (fun H1 locs1 hP1 hD1 hS1 => ?_)
  rw [pl_set hD ha hq0, up_rowq hi.1 (by omega)] at hP1 hD1
  exact kk _ (va_up_self _ _ _) (fun b hb => va_up_ne _ _ hb) H1 locs1 ls hP1 hD1 hS1 hl
theorem g_gets (X : Fx p s m args meth c D ca A nL cc own) {f d0 host : String} {ty : FieldType} {N index : Nat} {g : Int → Int} (hlink : Cond.fieldLink own index "StrideBanks" f d0 ∈ TB) (hz : Sz f d0 ty N g A s s.heap) (d : decode cc pc = .ok (.getstatic index, 3)) (hn : pc + 3 = n) (kk : ∀ t : Nat, va_T ty t N (fun j : Nat => .int (iI (g (j : Int)))) A s s.heap → G p l e R s m args below meth c D A nL Q cells slots L M n lv (.ref t :: st)) : G p l e R s m args below meth c D A nL Q cells slots L M pc lv st := by
  intro H locs ls hP hD hS hl
  subst hn
  obtain ⟨t, h1, h2⟩ := hz
  exact va_gets X.1.1 X.1.2.1 h1 hS X.1.2.2.2.1 (X.1.2.2.2.2 _ hlink) (fun _ h => h) d (kk t h2 H locs ls hP hD hS hl)
theorem g_getsN (X : Fx p s m args meth c D ca A nL cc own) {f d0 host : String} {ty : FieldType} {N index : Nat} {g : Int → Int} (hlink : Cond.fieldLinkNest own index "StrideBanks" f d0 host ∈ NW) (hz : Sz f d0 ty N g A s s.heap) (d : decode cc pc = .ok (.getstatic index, 3)) (hn : pc + 3 = n) (kk : ∀ t : Nat, va_T ty t N (fun j : Nat => .int (iI (g (j : Int)))) A s s.heap → G p l e R s m args below meth c D A nL Q cells slots L M n lv (.ref t :: st)) : G p l e R s m args below meth c D A nL Q cells slots L M pc lv st := by
  intro H locs ls hP hD hS hl
  subst hn
  obtain ⟨t, h1, h2⟩ := hz
  exact va_getsN X.1.1 X.1.2.1 h1 hS X.1.2.2.2.1 (va_Nw.use rfl (X.2.2.1 _ hlink)) (fun _ h => h) d (kk t h2 H locs ls hP hD hS hl)
theorem g_ti (X : Fx p s m args meth c D ca A nL cc own) {t N : Nat} {g : Int → Int} {i : Int} (hT : va_T .int t N (fun j : Nat => .int (iI (g (j : Int)))) A s s.heap) (hi : 0 ≤ i ∧ i < N) (hN : N < 2147483648) (d : decode cc pc = .ok (.iaload, 1)) (hn : pc + 1 = n) (kk : G p l e R s m args below meth c D A nL Q cells slots L M n lv (.int (iI (g i)) :: st)) : G p l e R s m args below meth c D A nL Q cells slots L M pc lv (.int (iI i) :: .ref t :: st) := by
  intro H locs ls hP hD hS hl
  subst hn
  exact va_ti X.1.1 X.1.2.1 hT hS (iI_in hi.1 hi.2 hN) (v := .int (iI (g i))) (by show Value.int (iI (g (((iI i).toNatClampNeg : Nat) : Int))) = _; rw [iI_cl hi.1 (by omega)]) d (kk H locs ls hP hD hS hl)
theorem g_tc (X : Fx p s m args meth c D ca A nL cc own) {t N : Nat} {g : Int → Int} {i : Int} (hT : va_T .char t N (fun j : Nat => .int (iI (g (j : Int)))) A s s.heap) (hi : 0 ≤ i ∧ i < N) (hN : N < 2147483648) (d : decode cc pc = .ok (.caload, 1)) (hn : pc + 1 = n) (kk : G p l e R s m args below meth c D A nL Q cells slots L M n lv (.int (iI (g i)) :: st)) : G p l e R s m args below meth c D A nL Q cells slots L M pc lv (.int (iI i) :: .ref t :: st) := by
  intro H locs ls hP hD hS hl
  subst hn
  exact va_tc X.1.1 X.1.2.1 hT hS (iI_in hi.1 hi.2 hN) (v := .int (iI (g i))) (by show Value.int (iI (g (((iI i).toNatClampNeg : Nat) : Int))) = _; rw [iI_cl hi.1 (by omega)]) d (kk H locs ls hP hD hS hl)
theorem g_max (X : Fx p s m args meth c D ca A nL cc own) {index : Nat} {a b : Int} (ha : R32 a) (hb : R32 b) (hlink : Cond.methodLink own index yJ9_max_7cf53 ∈ TB) (hR : 1 ≤ R.frames ∧ 21 ≤ R.locals) (hcs : cells ≤ R.cells ∧ slots ≤ R.slots) (hst : (st.map fun v => v.category).sum ≤ 8) (d : decode cc pc = .ok (.invokestatic index, 3)) (hn : pc + 3 = n) (kk : G p l e R s m args below meth c D A nL Q cells slots L M n lv (.int (iI (if a < b then b else a)) :: st)) : G p l e R s m args below meth c D A nL Q cells slots L M pc lv (.int (iI b) :: .int (iI a) :: st) := by
  intro H locs ls hP hD hS hl
  subst hn
  refine va_mmax X.1.1 X.1.2.1 (X.1.2.2.1.trans hl.1.symm) X.1.2.2.2.1 (X.1.2.2.2.2 _ hlink) (X.1.2.2.2.2 _ wt_J9_max_7cf53) (X.1.2.2.2.2 _ w0_J9) (X.1.2.2.2.2 _ wc_J9_max_7cf53) hR.1 (by omega) hcs.1 hcs.2 d ?_
  have hh : (if iI a < iI b then iI b else iI a) = iI (if a < b then b else a) := by
    by_cases h : a < b
    · rw [if_pos h, if_pos ((iI_lt ha hb).mpr h)]
    · rw [if_neg h, if_neg (fun q => h ((iI_lt ha hb).mp q))]
  rw [hh]
  exact kk H locs ls hP hD hS hl
end Rows
