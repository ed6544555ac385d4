/-! ===== longs: characters out of a number ===== -/
def lb (x : Int64) : Int := (x &&& 255).toInt
theorem lb_rng (x : Int64) : 0 ≤ lb x ∧ lb x ≤ 255 := by
  have h1 : (x &&& 255).toBitVec.toNat ≤ 255 := by
    rw [show (x &&& 255).toBitVec = x.toBitVec &&& (255 : Int64).toBitVec from rfl, BitVec.toNat_and]
    exact Nat.le_trans Nat.and_le_right (by decide)
  have h2 : (x &&& 255).toInt = ((x &&& 255).toBitVec.toNat : Int) := by
    show (x &&& 255).toBitVec.toInt = _
    exact BitVec.toInt_eq_toNat_of_lt (by omega)
  unfold lb
  omega
theorem lb_l2i (x : Int64) : (x &&& 255).toInt32 = iI (lb x) := by
  have h := lb_rng x
  rw [← Int32.toInt_inj, iI_toInt ⟨by omega, by omega⟩, Int64.toInt_toInt32]
  show (lb x).bmod (2 ^ 32) = lb x
  exact Int.bmod_eq_of_le (by omega) (by omega)
theorem ch_small : ∀ n : Nat, n < 256 → ((iI (n : Int)).toUInt32 % 65536).toInt32 = iI (n : Int) ∧ vp_nar .char (iI (n : Int)) = iI (n : Int) := by decide +kernel
theorem ch_i2c {v : Int} (h : 0 ≤ v ∧ v ≤ 255) : ((iI v).toUInt32 % 65536).toInt32 = iI v := by
  have := (ch_small v.toNat (by omega)).1
  rwa [show ((v.toNat : Nat) : Int) = v by omega] at this
theorem ch_nar {v : Int} (h : 0 ≤ v ∧ v ≤ 255) : vp_nar .char (iI v) = iI v := by
  have := (ch_small v.toNat (by omega)).2
  rwa [show ((v.toNat : Nat) : Int) = v by omega] at this
def sh8 (x : Int64) (n : Int) : Int64 := (x.toUInt64 >>> ((iI n).toInt64.toUInt64 &&& Int64.toUInt64 63)).toInt64
def sq8 (c : Int64) : Nat → Int64
  | 0 => c
  | k + 1 => sh8 (sq8 c k) 8
/-- how many characters a number holds: -1 if one of them may not stand -/
def ptF (c : Int64) : Nat → Nat → Int
  | 0, k => k
  | f + 1, k => if (sq8 c k).toInt = 0 then k else if 33 ≤ lb (sq8 c k) ∧ lb (sq8 c k) ≤ 126 then ptF c f (k + 1) else -1
def ptN (c : Int64) : Int := ptF c 8 0
theorem ptF_rng (c : Int64) : ∀ f k : Nat, ptF c f k = -1 ∨ (k : Int) ≤ ptF c f k ∧ ptF c f k ≤ k + f
  | 0, k => by simp only [ptF]; omega
  | f + 1, k => by
    have := ptF_rng c f (k + 1)
    simp only [ptF]
    split
    · omega
    · split <;> omega
theorem ptN_rng (c : Int64) : ptN c = -1 ∨ 0 ≤ ptN c ∧ ptN c ≤ 8 := by
  have := ptF_rng c 8 0
  unfold ptN; omega
/-- t characters of n behind a length -/
def apP (c : Int64) (n len : Int) (t : Int) (pa : Int → Int) : Int → Int := fun j => if len ≤ j ∧ j < len + t then lb (sh8 c (8 * (n - 1 - (j - len)))) else pa j
theorem apP_0 (c : Int64) (n len : Int) (pa : Int → Int) : apP c n len 0 pa = pa := funext fun k => if_neg (by omega)
theorem apP_up (c : Int64) (n len : Int) {t : Int} (pa : Int → Int) (h : 0 ≤ t) : up (apP c n len t pa) (len + t) (lb (sh8 c (8 * (n - 1 - t)))) = apP c n len (t + 1) pa := by
  funext j
  simp only [up, apP]
  by_cases h1 : j = len + t
  · subst h1; rw [if_pos rfl, if_pos (by omega), show len + t - len = t by omega]
  · rw [if_neg h1]
    by_cases h2 : len ≤ j ∧ j < len + t
    · rw [if_pos h2, if_pos (by omega)]
    · rw [if_neg h2, if_neg (by omega)]
def anPut (S : AS) (c : Int64) : Int := if ptN c ≤ 0 then -2 else if S.2.2.2.2.2.1 + ptN c > 60 then -4 else S.2.2.2.2.2.1 + ptN c
def opPut (S : AS) (c : Int64) : AS := if 0 < ptN c ∧ S.2.2.2.2.2.1 + ptN c ≤ 60 then (S.1, S.2.1, S.2.2.1, S.2.2.2.1, apP c (ptN c) S.2.2.2.2.2.1 (ptN c) S.2.2.2.2.1, S.2.2.2.2.2.1 + ptN c, S.2.2.2.2.2.2) else S
section RowsL
variable {p : Program} {l : Launch} {e : Env} {R : Room} {s : State} {m : MethodId} {args : Array Value} {below : List Frame} {meth : Method} {c : Code} {D : va_G} {ca : Nat → ClassId} {A : Nat → Prop} {nL : Nat} {Q : State → Prop} {cells slots : Nat} {cc : ByteArray} {own : String} {L : List Nat} {M : Mem} {pc n n2 : Nat} {lv : List (Nat × Value)} {st : List Value}
theorem g_lcmp_eq (X : Fx p s m args meth c D ca A nL cc own) {x y : Int64} {a b : Int} {off : Int} {tgt : Nat} (hx : x.toInt = a) (hy : y.toInt = b) (d1 : decode cc pc = .ok (.lcmp, 1)) (hn1 : pc + 1 = n) (d2 : decode cc n = .ok (.ifCond .eq off, 3)) (ht : (n : Int) + off = (tgt : Int)) (hn : n + 3 = n2) (kt : a = b → G p l e R s m args below meth c D A nL Q cells slots L M tgt lv st) (kf : ¬ a = b → G p l e R s m args below meth c D A nL Q cells slots L M n2 lv st) : G p l e R s m args below meth c D A nL Q cells slots L M pc lv (.long y :: .long x :: st) := by
  intro H locs ls hP hD hS hl
  subst hn1 hn hx hy
  refine W.lcmp X.1.1 X.1.2.1 d1 ?_
  refine lv_if_eq X.1.1 X.1.2.1 d2 ht (fun h => ?_) (fun h => ?_)
  · exact kt (by rw [(lg_cmp_eq x y).mp h]) H locs ls hP hD hS hl
  · exact kf (fun q => h ((lg_cmp_eq x y).mpr (Int64.toInt_inj.mp q))) H locs ls hP hD hS hl
theorem g_lcmp_lt (X : Fx p s m args meth c D ca A nL cc own) {x y : Int64} {a b : Int} {off : Int} {tgt : Nat} (hx : x.toInt = a) (hy : y.toInt = b) (d1 : decode cc pc = .ok (.lcmp, 1)) (hn1 : pc + 1 = n) (d2 : decode cc n = .ok (.ifCond .lt off, 3)) (ht : (n : Int) + off = (tgt : Int)) (hn : n + 3 = n2) (kt : a < b → G p l e R s m args below meth c D A nL Q cells slots L M tgt lv st) (kf : ¬ a < b → G p l e R s m args below meth c D A nL Q cells slots L M n2 lv st) : G p l e R s m args below meth c D A nL Q cells slots L M pc lv (.long y :: .long x :: st) := by
  intro H locs ls hP hD hS hl
  subst hn1 hn hx hy
  refine W.lcmp X.1.1 X.1.2.1 d1 ?_
  refine lv_if_lt X.1.1 X.1.2.1 d2 ht (fun h => ?_) (fun h => ?_)
  · exact kt (Int64.lt_iff_toInt_lt.mp ((lg_cmp_lt x y).mp h)) H locs ls hP hD hS hl
  · exact kf (fun q => h ((lg_cmp_lt x y).mpr (Int64.lt_iff_toInt_lt.mpr q))) H locs ls hP hD hS hl
theorem g_lcmp_le (X : Fx p s m args meth c D ca A nL cc own) {x y : Int64} {a b : Int} {off : Int} {tgt : Nat} (hx : x.toInt = a) (hy : y.toInt = b) (d1 : decode cc pc = .ok (.lcmp, 1)) (hn1 : pc + 1 = n) (d2 : decode cc n = .ok (.ifCond .le off, 3)) (ht : (n : Int) + off = (tgt : Int)) (hn : n + 3 = n2) (kt : a ≤ b → G p l e R s m args below meth c D A nL Q cells slots L M tgt lv st) (kf : ¬ a ≤ b → G p l e R s m args below meth c D A nL Q cells slots L M n2 lv st) : G p l e R s m args below meth c D A nL Q cells slots L M pc lv (.long y :: .long x :: st) := by
  intro H locs ls hP hD hS hl
  subst hn1 hn hx hy
  refine W.lcmp X.1.1 X.1.2.1 d1 ?_
  refine lv_if_le X.1.1 X.1.2.1 d2 ht (fun h => ?_) (fun h => ?_)
  · exact kt (Int64.le_iff_toInt_le.mp ((lg_cmp_le x y).mp h)) H locs ls hP hD hS hl
  · exact kf (fun q => h ((lg_cmp_le x y).mpr (Int64.le_iff_toInt_le.mpr q))) H locs ls hP hD hS hl
end RowsL
