/-! ===== the reference's numbers as a function: settings 0 to 3, cycle 4, streams 5, bank b at 6 + 4 b, stream i at 70 + 10 i ===== -/
abbrev oMd (μ : Nat → Nat) (q : Int → Int) : va_E := .inr (6, [.ref (μ 1), .ref (μ 2), .ref (μ 3), .ref (μ 4), .ref (μ 5), .ref (μ 6), .ref (μ 7), .ref (μ 8), .int (iI (q 0)), .int (iI (q 1)), .int (iI (q 2)), .int (iI (q 3))])
def MuOk (μ : Nat → Nat) (L : List Nat) : Prop := (∀ i, i < 9 → μ i ∈ L) ∧ ∀ i j, i < 9 → j < 9 → μ i = μ j → i = j
theorem MuOk.mem {μ : Nat → Nat} {L : List Nat} (h : MuOk μ L) (i : Nat) (hi : i < 9) : μ i ∈ L := h.1 i hi
theorem MuOk.ne {μ : Nat → Nat} {L : List Nat} (h : MuOk μ L) {i j : Nat} (hi : i < 9) (hj : j < 9) (hij : i ≠ j) : μ i ≠ μ j := fun q => hij (h.2 i j hi hj q)
def InvS (g : Int → Int) : Prop := (2 ≤ g 0 ∧ g 0 ≤ 16) ∧ (1 ≤ g 1 ∧ g 1 ≤ 12) ∧ (0 ≤ g 2 ∧ g 2 ≤ 2) ∧ (0 ≤ g 3 ∧ g 3 ≤ 1) ∧ (0 ≤ g 4 ∧ g 4 ≤ 1000000) ∧ (0 ≤ g 5 ∧ g 5 ≤ 4)
def InvB (g : Int → Int) : Prop := ∀ b, 0 ≤ b → b < 16 → (0 ≤ g (6 + 4 * b) ∧ g (6 + 4 * b) ≤ g 4 + 12) ∧ (-1 ≤ g (6 + 4 * b + 1) ∧ g (6 + 4 * b + 1) < 4)
def rowI (g : Int → Int) (q : Int) : Prop := (0 ≤ g q ∧ g q < 4096) ∧ (0 ≤ g (q + 1) ∧ g (q + 1) < 1024) ∧ (1 ≤ g (q + 2) ∧ g (q + 2) ≤ 200) ∧ (0 ≤ g (q + 3) ∧ g (q + 3) ≤ g (q + 2)) ∧ (0 ≤ g (q + 4) ∧ g (q + 4) < 4096) ∧ ((g (q + 3) = g (q + 2) ∧ g (q + 5) = -1 ∧ g (q + 4) = g q) ∨ (g (q + 3) < g (q + 2) ∧ 0 ≤ g (q + 5) ∧ g (q + 5) < 4096 ∧ g (q + 4) = (g (q + 5) + g (q + 1)) % 4096))
def InvR (g : Int → Int) : Prop := ∀ i, 0 ≤ i → i < g 5 → rowI g (70 + 10 * i)
def Inv (g : Int → Int) : Prop := InvS g ∧ InvB g ∧ InvR g
def cpy (n : Int) (f h : Int → Int) : Int → Int := fun k => if 0 ≤ k ∧ k < n then f k else h k
theorem cpy_0 (f h : Int → Int) : cpy 0 f h = h := funext fun k => if_neg (by omega)
theorem cpy_up (f h : Int → Int) {k : Int} (hk : 0 ≤ k) : up (cpy k f h) k (f k) = cpy (k + 1) f h := by
  funext j
  simp only [up, cpy]
  by_cases h1 : j = k
  · subst h1; rw [if_pos rfl, if_pos (by omega)]
  · rw [if_neg h1]
    by_cases h2 : 0 ≤ j ∧ j < k
    · rw [if_pos h2, if_pos (by omega)]
    · rw [if_neg h2, if_neg (by omega)]
theorem cpy_in {n : Int} {f h : Int → Int} {k : Int} (h0 : 0 ≤ k) (h1 : k < n) : cpy n f h k = f k := if_pos ⟨h0, h1⟩
theorem cpy_out {n : Int} {f h : Int → Int} {k : Int} (h1 : ¬ (0 ≤ k ∧ k < n)) : cpy n f h k = h k := if_neg h1
/-- prime numbers up to 16 -/
def ptB (n : Int) : Nat → Bool
  | 0 => true
  | k + 1 => ptB n k && decide (n % ((k : Int) + 2) > 0)
abbrev isPr (n : Int) : Prop := ptB n (n - 2).toNat = true
theorem ptB_next {v y z : Int} {k : Nat} (hy : y = (k : Int) + 2) (hz : z = if ptB v k = true then 1 else 0) : (z ≠ 0 → v % y > 0 → (1 : Int) = if ptB v (k + 1) = true then 1 else 0) ∧ (z = 0 ∨ ¬ v % y > 0 → (0 : Int) = if ptB v (k + 1) = true then 1 else 0) := by
  subst hy
  cases hp : ptB v k
  · rw [hp] at hz
    simp only [Bool.false_eq_true, if_false] at hz
    refine ⟨fun h => absurd hz h, fun _ => ?_⟩
    rw [ptB, hp]; rfl
  · rw [hp] at hz
    simp only [if_true] at hz
    refine ⟨fun _ h => ?_, fun h => ?_⟩
    · rw [ptB, hp, if_pos (by simp only [Bool.true_and, decide_eq_true_eq]; exact h)]
    · have h2 : ¬ v % ((k : Int) + 2) > 0 := h.elim (fun q => absurd (hz.symm.trans q) (by decide)) id
      rw [ptB, hp, if_neg (by simp only [Bool.true_and, decide_eq_true_eq]; exact h2)]
theorem isPr_step {n : Int} (h1 : 2 ≤ n) (h2 : n ≤ 16) : (isPr n → tGP n = n) ∧ (¬ isPr n → 3 ≤ n ∧ tGP (n - 1) = tGP n) := by
  rcases (by omega : n = 2 ∨ n = 3 ∨ n = 4 ∨ n = 5 ∨ n = 6 ∨ n = 7 ∨ n = 8 ∨ n = 9 ∨ n = 10 ∨ n = 11 ∨ n = 12 ∨ n = 13 ∨ n = 14 ∨ n = 15 ∨ n = 16) with h | h | h | h | h | h | h | h | h | h | h | h | h | h | h <;> subst h <;> decide
theorem tGP_rng {n : Int} (h1 : 2 ≤ n) (h2 : n ≤ 16) : 2 ≤ tGP n ∧ tGP n ≤ n := by
  rcases (by omega : n = 2 ∨ n = 3 ∨ n = 4 ∨ n = 5 ∨ n = 6 ∨ n = 7 ∨ n = 8 ∨ n = 9 ∨ n = 10 ∨ n = 11 ∨ n = 12 ∨ n = 13 ∨ n = 14 ∨ n = 15 ∨ n = 16) with h | h | h | h | h | h | h | h | h | h | h | h | h | h | h <;> subst h <;> decide
def bkG (g : Int → Int) (a : Int) : Int := if g 2 = 0 then a % g 0 else if g 2 = 1 then (a + a / g 0) % g 0 else a % tGP (g 0)
theorem bkG_rng {g : Int → Int} (hI : InvS g) (a : Int) : 0 ≤ bkG g a ∧ bkG g a < g 0 ∧ bkG g a < 16 := by
  obtain ⟨⟨h1, h2⟩, -⟩ := hI
  have h3 := tGP_rng h1 h2
  have e1 := Int.emod_nonneg a (by omega : g 0 ≠ 0)
  have e2 := Int.emod_lt_of_pos a (by omega : 0 < g 0)
  have e3 := Int.emod_nonneg (a + a / g 0) (by omega : g 0 ≠ 0)
  have e4 := Int.emod_lt_of_pos (a + a / g 0) (by omega : 0 < g 0)
  have e5 := Int.emod_nonneg a (by omega : tGP (g 0) ≠ 0)
  have e6 := Int.emod_lt_of_pos a (by omega : 0 < tGP (g 0))
  unfold bkG
  split
  · omega
  · split <;> omega
def asksG (g : Int → Int) (i : Int) : Int → Int :=
  if g (6 + 4 * bkG g (g (70 + 10 * i + 4))) > g 4 then
    up (up (up g (70 + 10 * i + 6) (g (70 + 10 * i + 6) + 1)) (70 + 10 * i + 7) (g (70 + 10 * i + 7) + if g (6 + 4 * bkG g (g (70 + 10 * i + 4)) + 1) = i then 0 else 1)) (6 + 4 * bkG g (g (70 + 10 * i + 4)) + 3) (g (6 + 4 * bkG g (g (70 + 10 * i + 4)) + 3) + 1)
  else
    up (up (up (up (up (up (up g (6 + 4 * bkG g (g (70 + 10 * i + 4))) (g 4 + g 1)) (6 + 4 * bkG g (g (70 + 10 * i + 4)) + 1) i) (6 + 4 * bkG g (g (70 + 10 * i + 4)) + 2) (g (6 + 4 * bkG g (g (70 + 10 * i + 4)) + 2) + 1)) (70 + 10 * i + 5) (g (70 + 10 * i + 4))) (70 + 10 * i + 4) ((g (70 + 10 * i + 4) + g (70 + 10 * i + 1)) % 4096)) (70 + 10 * i + 3) (g (70 + 10 * i + 3) - 1)) (70 + 10 * i + 8) (if g (70 + 10 * i + 3) - 1 = 0 then g 4 else -1)
def asksR (g : Int → Int) (i : Int) : Int := if g (6 + 4 * bkG g (g (70 + 10 * i + 4))) > g 4 then 0 else 1
