/-! ===== how many banks a stream meets: a set of bits ===== -/
def mtW (g : Int → Int) (i : Int) : Nat → Int32
  | 0 => 0
  | k + 1 => mtW g i k ||| ((1 : Int32) <<< (iI (bkG g ((g (70 + 10 * i) + (k : Int) * g (70 + 10 * i + 1)) % 4096)) &&& 31))
def mtC (w : Int32) : Nat → Int32
  | 0 => 0
  | k + 1 => mtC w k + ((w >>> (iI (k : Int) &&& 31)) &&& 1)
def mtV (g : Int → Int) (i : Int) : Int32 := mtC (mtW g i (g (70 + 10 * i + 2)).toNat) 16
def anStream (S : AS) (i w : Int) : Int := if isStr S.1 i then (if 0 ≤ w ∧ w ≤ 3 then S.1 (70 + 10 * i + w) else if w = 4 then (if S.1 (70 + 10 * i + 3) = 0 then -6 else S.1 (70 + 10 * i + 4)) else if 5 ≤ w ∧ w ≤ 6 then S.1 (70 + 10 * i + w + 1) else if w = 7 then (if S.1 (70 + 10 * i + 3) = 0 then S.1 (70 + 10 * i + 8) else -6) else if w = 8 then (mtV S.1 i).toInt else -2) else -1
theorem bb_rng {g : Int → Int} : ∀ k : Nat, 0 ≤ bbS g k ∧ bbS g k ≤ k
  | 0 => by simp only [bbS]; omega
  | k + 1 => by
    have := bb_rng (g := g) k
    simp only [bbS]; split <;> omega
theorem g_iaddr {p : Program} {l : Launch} {e : Env} {R : Room} {s : State} {m : MethodId} {args : Array Value} {below : List Frame} {meth : Method} {c : Code} {D : va_G} {ca : Nat → ClassId} {A : Nat → Prop} {nL : Nat} {Q : State → Prop} {cells slots : Nat} {cc : ByteArray} {own : String} {L : List Nat} {M : Mem} {pc n : Nat} {lv : List (Nat × Value)} {st : List Value} (X : Fx p s m args meth c D ca A nL cc own) {x y : Int32} (d : decode cc pc = .ok (.iadd, 1)) (hn : pc + 1 = n) (k : G p l e R s m args below meth c D A nL Q cells slots L M n lv (.int (x + y) :: st)) : G p l e R s m args below meth c D A nL Q cells slots L M pc lv (.int y :: .int x :: st) := by
  intro H locs ls hP hD hS hl
  subst hn
  exact lv_iadd X.1.1 X.1.2.1 d (k H locs ls hP hD hS hl)
