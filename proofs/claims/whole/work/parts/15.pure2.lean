/-! ===== blocks of rows ===== -/
def shf (n : Int) (be : Int → Int) : Int → Int := fun k => if 0 ≤ k ∧ k < n then be (110 + k) else be k
theorem shf_0 (f : Int → Int) : shf 0 f = f := funext fun k => if_neg (by omega)
theorem shf_up (f : Int → Int) {n : Int} (hn : 0 ≤ n) : up (shf n f) n (f (110 + n)) = shf (n + 1) f := by
  funext j
  simp only [up, shf]
  by_cases h1 : j = n
  · subst h1; rw [if_pos rfl, if_pos (by omega)]
  · rw [if_neg h1]
    by_cases h2 : 0 ≤ j ∧ j < n
    · rw [if_pos h2, if_pos (by omega)]
    · rw [if_neg h2, if_neg (by omega)]
theorem shf_hi (f : Int → Int) {n k : Int} (h : n ≤ k) : shf n f k = f k := if_neg (by omega)
def pbl (n o : Int) (be sp : Int → Int) : Int → Int := fun k => if o ≤ k ∧ k < o + n then sp (k - o) else be k
theorem pbl_0 (o : Int) (f h : Int → Int) : pbl 0 o f h = f := funext fun k => if_neg (by omega)
theorem pbl_up (f h : Int → Int) {n o : Int} (hn : 0 ≤ n) : up (pbl n o f h) (o + n) (h n) = pbl (n + 1) o f h := by
  funext j
  simp only [up, pbl]
  by_cases h1 : j = o + n
  · subst h1; rw [if_pos rfl, if_pos (by omega), show o + n - o = n by omega]
  · rw [if_neg h1]
    by_cases h2 : o ≤ j ∧ j < o + n
    · rw [if_pos h2, if_pos (by omega)]
    · rw [if_neg h2, if_neg (by omega)]
def recT (st : Int) : Int := if st = 6 then st - 1 else st
def recE (st : Int) (be : Int → Int) : Int → Int := if st = 6 then shf 550 be else be
def recB (st : Int) (be sp : Int → Int) : Int → Int := pbl 110 (110 * recT st) (recE st be) sp
def recN (st : Int) : Int := recT st + 1
theorem oMd_up0 (μ : Nat → Nat) (q : Int → Int) (v : Int) : oMd μ (up q 0 v) = .inr (6, [.ref (μ 1), .ref (μ 2), .ref (μ 3), .ref (μ 4), .ref (μ 5), .ref (μ 6), .ref (μ 7), .ref (μ 8), .int (iI v), .int (iI (q 1)), .int (iI (q 2)), .int (iI (q 3))]) := rfl
theorem oMd_up1 (μ : Nat → Nat) (q : Int → Int) (v : Int) : oMd μ (up q 1 v) = .inr (6, [.ref (μ 1), .ref (μ 2), .ref (μ 3), .ref (μ 4), .ref (μ 5), .ref (μ 6), .ref (μ 7), .ref (μ 8), .int (iI (q 0)), .int (iI v), .int (iI (q 2)), .int (iI (q 3))]) := rfl
theorem oMd_up2 (μ : Nat → Nat) (q : Int → Int) (v : Int) : oMd μ (up q 2 v) = .inr (6, [.ref (μ 1), .ref (μ 2), .ref (μ 3), .ref (μ 4), .ref (μ 5), .ref (μ 6), .ref (μ 7), .ref (μ 8), .int (iI (q 0)), .int (iI (q 1)), .int (iI v), .int (iI (q 3))]) := rfl
theorem oMd_up3 (μ : Nat → Nat) (q : Int → Int) (v : Int) : oMd μ (up q 3 v) = .inr (6, [.ref (μ 1), .ref (μ 2), .ref (μ 3), .ref (μ 4), .ref (μ 5), .ref (μ 6), .ref (μ 7), .ref (μ 8), .int (iI (q 0)), .int (iI (q 1)), .int (iI (q 2)), .int (iI v)]) := rfl
abbrev isSet (k v : Int) : Prop := (k = 0 ∧ 2 ≤ v ∧ v ≤ 16) ∨ (k = 1 ∧ 1 ≤ v ∧ v ≤ 12) ∨ (k = 2 ∧ 0 ≤ v ∧ v ≤ 2) ∨ (k = 3 ∧ 0 ≤ v ∧ v ≤ 1)
