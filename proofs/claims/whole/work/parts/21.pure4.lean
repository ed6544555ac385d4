/-! ===== how many banks a stream meets: a set of bits ===== -/
def mtW (g : Int → Int) (i : Int) : Nat → Int32
  | 0 => 0
  | k + 1 => mtW g i k ||| ((1 : Int32) <<< (iI (bkG g ((g (70 + 10 * i) + (k : Int) * g (70 + 10 * i + 1)) % 4096)) &&& 31))
def mtC (w : Int32) : Nat → Int32
  | 0 => 0
  | k + 1 => mtC w k + ((w >>> (iI (k : Int) &&& 31)) &&& 1)
def mtV (g : Int → Int) (i : Int) : Int32 := mtC (mtW g i (g (70 + 10 * i + 2)).toNat) 16
def anStream (S : AS) (i w : Int) : Int := if isStr S.1 i then (if 0 ≤ w ∧ w ≤ 3 then S.1 (70 + 10 * i + w) else if w = 4 then (if S.1 (70 + 10 * i + 3) = 0 then -6 else S.1 (70 + 10 * i + 4)) else if 5 ≤ w ∧ w ≤ 6 then S.1 (70 + 10 * i + w + 1) else if w = 7 then (if S.1 (70 + 10 * i + 3) = 0 then S.1 (70 + 10 * i + 8) else -6) else if w = 8 then (mtV S.1 i).toInt else -2) else -1
theorem bb_rng {g : Int → Int} : ∀ k : Nat, 0 ≤ bbS g k ∧ bbS g k ≤ k
  | 0 => by simp only [bbS]; omega
  | k + 1 => by
    have := bb_rng (g := g) k
    simp only [bbS]; split <;> omega
