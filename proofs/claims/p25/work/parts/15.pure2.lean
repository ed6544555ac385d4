/-! ===== blocks of rows ===== -/
def shf (n : Int) (be : Int → Int) : Int → Int := fun k => if 0 ≤ k ∧ k < n then be (110 + k) else be k
theorem shf_0 (f : Int → Int) : shf 0 f = f := funext fun k => if_neg (by omega)
theorem shf_up (f : Int → Int) {n : Int} (hn : 0 ≤ n) : up (shf n f) n (f (110 + n)) = shf (n + 1) f := by
  funext j
  simp only [up, shf]
  by_cases h1 : j = n
  · subst h1; rw [if_pos rfl, if_pos (by omega)]
  · rw [if_neg h1]
    by_cases h2 : 0 ≤ j ∧ j < n
    · rw [if_pos h2, if_pos (by omega)]
    · rw [if_neg h2, if_neg (by omega)]
theorem shf_hi (f : Int → Int) {n k : Int} (h : n ≤ k) : shf n f k = f k := if_neg (by omega)
def pbl (n o : Int) (be sp : Int → Int) : Int → Int := fun k => if o ≤ k ∧ k < o + n then sp (k - o) else be k
theorem pbl_0 (o : Int) (f h : Int → Int) : pbl 0 o f h = f := funext fun k => if_neg (by omega)
theorem pbl_up (f h : Int → Int) {n o : Int} (hn : 0 ≤ n) : up (pbl n o f h) (o + n) (h n) = pbl (n + 1) o f h := by
  funext j
  simp only [up, pbl]
  by_cases h1 : j = o + n
  · subst h1; rw [if_pos rfl, if_pos (by omega), show o + n - o = n by omega]
  · rw [if_neg h1]
    by_cases h2 : o ≤ j ∧ j < o + n
    · rw [if_pos h2, if_pos (by omega)]
    · rw [if_neg h2, if_neg (by omega)]
def recT (st : Int) : Int := if st = 6 then st - 1 else st
def recE (st : Int) (be : Int → Int) : Int → Int := if st = 6 then shf 550 be else be
def recB (st : Int) (be sp : Int → Int) : Int → Int := pbl 110 (110 * recT st) (recE st be) sp
def recN (st : Int) : Int := recT st + 1
theorem oMd_up0 (μ : Nat → Nat) (q : Int → Int) (v : Int) : oMd μ (up q 0 v) = .inr (6, [.ref (μ 1), .ref (μ 2), .ref (μ 3), .ref (μ 4), .ref (μ 5), .ref (μ 6), .ref (μ 7), .ref (μ 8), .int (iI v), .int (iI (q 1)), .int (iI (q 2)), .int (iI (q 3))]) := rfl
theorem oMd_up1 (μ : Nat → Nat) (q : Int → Int) (v : Int) : oMd μ (up q 1 v) = .inr (6, [.ref (μ 1), .ref (μ 2), .ref (μ 3), .ref (μ 4), .ref (μ 5), .ref (μ 6), .ref (μ 7), .ref (μ 8), .int (iI (q 0)), .int (iI v), .int (iI (q 2)), .int (iI (q 3))]) := rfl
theorem oMd_up2 (μ : Nat → Nat) (q : Int → Int) (v : Int) : oMd μ (up q 2 v) = .inr (6, [.ref (μ 1), .ref (μ 2), .ref (μ 3), .ref (μ 4), .ref (μ 5), .ref (μ 6), .ref (μ 7), .ref (μ 8), .int (iI (q 0)), .int (iI (q 1)), .int (iI v), .int (iI (q 3))]) := rfl
theorem oMd_up3 (μ : Nat → Nat) (q : Int → Int) (v : Int) : oMd μ (up q 3 v) = .inr (6, [.ref (μ 1), .ref (μ 2), .ref (μ 3), .ref (μ 4), .ref (μ 5), .ref (μ 6), .ref (μ 7), .ref (μ 8), .int (iI (q 0)), .int (iI (q 1)), .int (iI (q 2)), .int (iI v)]) := rfl
abbrev isSet (k v : Int) : Prop := (k = 0 ∧ 2 ≤ v ∧ v ≤ 16) ∨ (k = 1 ∧ 1 ≤ v ∧ v ≤ 12) ∨ (k = 2 ∧ 0 ≤ v ∧ v ≤ 2) ∨ (k = 3 ∧ 0 ≤ v ∧ v ≤ 1)
/-! ===== the state that a run of calls sees: numbers, history, slots, whether they are used, the pad, its length, the history's length ===== -/
abbrev AS : Type := (Int → Int) × (Int → Int) × (Int → Int) × (Int → Int) × (Int → Int) × Int × Int
def Md (ca : Nat → ClassId) (M : Mem) (μ : Nat → Nat) (S : AS) : Prop := ∃ q sp tr rd : Int → Int, q 0 = S.2.2.2.2.2.1 ∧ q 1 = S.2.2.2.2.2.2 ∧ M (μ 0) = oMd μ q ∧ M (μ 1) = cI ca 110 S.1 ∧ M (μ 2) = cI ca 110 sp ∧ M (μ 3) = cI ca 110 tr ∧ M (μ 4) = cI ca 660 S.2.1 ∧ M (μ 5) = cI ca 220 S.2.2.1 ∧ M (μ 6) = cZ ca 2 S.2.2.2.1 ∧ M (μ 7) = cI ca 33 rd ∧ M (μ 8) = cC ca 60 S.2.2.2.2.1
def chg (S : AS) (g : Int → Int) : AS := (g, recB S.2.2.2.2.2.2 S.2.1 S.1, S.2.2.1, S.2.2.2.1, S.2.2.2.2.1, S.2.2.2.2.2.1, recN S.2.2.2.2.2.2)
def anSet (S : AS) (k v : Int) : Int := if isSet k v then S.1 k else -2
def opSet (S : AS) (k v : Int) : AS := if isSet k v then chg S (bgaG (up S.1 k v)) else S
abbrev okAdd (a b c : Int) : Prop := (0 ≤ a ∧ a ≤ 4095) ∧ (0 ≤ b ∧ b ≤ 1023) ∧ (1 ≤ c ∧ c ≤ 200)
def putsG (g : Int → Int) (a b c : Int) : Int → Int := up (bgnG (up (up (up g (70 + 10 * g 5) a) (70 + 10 * g 5 + 1) b) (70 + 10 * g 5 + 2) c) (g 5)) 5 (g 5 + 1)
def anAdd (S : AS) (a b c : Int) : Int := if okAdd a b c then (if S.1 5 = 4 then -4 else S.1 5) else -2
def opAdd (S : AS) (a b c : Int) : AS := if okAdd a b c ∧ S.1 5 ≠ 4 then chg S (putsG S.1 a b c) else S
def anReset (S : AS) : Int := wlG (bgaG S.1)
def opReset (S : AS) : AS := chg S (bgaG S.1)
abbrev isStr (g : Int → Int) (i : Int) : Prop := 0 ≤ i ∧ i ≤ g 5 - 1
def strG (g : Int → Int) (i v : Int) : Int → Int := up (up g (70 + 10 * i + 1) v) (70 + 10 * i + 4) (if g (70 + 10 * i + 5) < 0 then g (70 + 10 * i) else (g (70 + 10 * i + 5) + v) % 4096)
def anStride (S : AS) (i v : Int) : Int := if isStr S.1 i then (if 0 ≤ v ∧ v ≤ 1023 then S.1 (70 + 10 * i + 1) else -2) else -1
def opStride (S : AS) (i v : Int) : AS := if isStr S.1 i ∧ 0 ≤ v ∧ v ≤ 1023 then chg S (strG S.1 i v) else S
def anBankOf (S : AS) (a : Int) : Int := if 0 ≤ a ∧ a ≤ 4095 then bkG S.1 a else -2
theorem bga_low {g : Int → Int} {k : Int} (h : k < 6) (h4 : k ≠ 4) : bgaG g k = g k := by
  unfold bgaG
  rw [bgaS_low _ _ _ (by omega), clr, if_neg (by omega), up_ne _ _ h4]
