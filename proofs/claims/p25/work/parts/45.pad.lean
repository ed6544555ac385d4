/-! the class: its pad -/
abbrev oPad (Sg : Int → Int → Nat) (ln nf : Int) : va_E := .inr (2, [.ref (Sg 10 6), .int (iI ln), .ref (Sg 10 7), .int (iI nf)])
abbrev tdP (p dg b v : Int) : Prop := ¬ (0 < dg ∧ b = 0) ∧ tLN p ≤ v ∧ v ≤ tMN p
def tdB (dg nf : Int) (nu : Int → Int) : Int := if dg = 0 then 0 else nu nf
theorem tLN_rng {p : Int} (h : 0 ≤ p ∧ p < 3) : 0 ≤ tLN p ∧ tLN p ≤ 1 := by
  rcases (by omega : p = 0 ∨ p = 1 ∨ p = 2) with h | h | h <;> subst h <;> decide
theorem tMN_rng {p : Int} (h : 0 ≤ p ∧ p < 3) : 200 ≤ tMN p ∧ tMN p ≤ 4095 := by
  rcases (by omega : p = 0 ∨ p = 1 ∨ p = 2) with h | h | h <;> subst h <;> decide
theorem tBN_rng {p : Int} (h : 0 ≤ p ∧ p < 3) : 42 ≤ tBN p ∧ tBN p ≤ 59 := by
  rcases (by omega : p = 0 ∨ p = 1 ∨ p = 2) with h | h | h <;> subst h <;> decide
def caF (pa : Int → Int) (len : Int) : Nat → Int → Int → Int → (Int → Int) → Int × (Int → Int) × Int
  | 0, _, dg, nf, nu => if dg = 0 ∨ ¬ nf % 3 = 2 then (len, nu, nf) else (-6, nu, nf + 1)
  | n + 1, i, dg, nf, nu =>
    if 48 ≤ pa i ∧ pa i ≤ 57 then
      (if tdP (nf % 3) dg (tdB dg nf nu) (tdB dg nf nu * 10 + (pa i - 48)) then caF pa len n (i + 1) (dg + 1) nf (up nu nf (tdB dg nf nu * 10 + (pa i - 48))) else (i, nu, nf))
    else (if dg = 0 ∨ ¬ pa i = tBN (nf % 3) then (i, nu, nf) else caF pa len n (i + 1) 0 (nf + 1) nu)
def caP (pa nu : Int → Int) (len : Int) : Int × (Int → Int) × Int := caF pa len len.toNat 0 0 0 nu
theorem caF_d {pa : Int → Int} {len i dg nf : Int} {n : Nat} {nu : Int → Int} (h : 48 ≤ pa i ∧ pa i ≤ 57) (t : tdP (nf % 3) dg (tdB dg nf nu) (tdB dg nf nu * 10 + (pa i - 48))) : caF pa len (n + 1) i dg nf nu = caF pa len n (i + 1) (dg + 1) nf (up nu nf (tdB dg nf nu * 10 + (pa i - 48))) := by rw [caF, if_pos h, if_pos t]
theorem caF_n {pa : Int → Int} {len i dg nf : Int} {n : Nat} {nu : Int → Int} (h : 48 ≤ pa i ∧ pa i ≤ 57) (t : ¬ tdP (nf % 3) dg (tdB dg nf nu) (tdB dg nf nu * 10 + (pa i - 48))) : caF pa len (n + 1) i dg nf nu = (i, nu, nf) := by rw [caF, if_pos h, if_neg t]
theorem caF_s {pa : Int → Int} {len i dg nf : Int} {n : Nat} {nu : Int → Int} (h : ¬ (48 ≤ pa i ∧ pa i ≤ 57)) (t : ¬ (dg = 0 ∨ ¬ pa i = tBN (nf % 3))) : caF pa len (n + 1) i dg nf nu = caF pa len n (i + 1) 0 (nf + 1) nu := by rw [caF, if_neg h, if_neg t]
theorem caF_x {pa : Int → Int} {len i dg nf : Int} {n : Nat} {nu : Int → Int} (h : ¬ (48 ≤ pa i ∧ pa i ≤ 57)) (t : dg = 0 ∨ ¬ pa i = tBN (nf % 3)) : caF pa len (n + 1) i dg nf nu = (i, nu, nf) := by rw [caF, if_neg h, if_pos t]
theorem caF_e {pa : Int → Int} {len i dg nf : Int} {nu : Int → Int} (t : dg = 0 ∨ ¬ nf % 3 = 2) : caF pa len 0 i dg nf nu = (len, nu, nf) := by rw [caF, if_pos t]
theorem caF_f {pa : Int → Int} {len i dg nf : Int} {nu : Int → Int} (t : ¬ (dg = 0 ∨ ¬ nf % 3 = 2)) : caF pa len 0 i dg nf nu = (-6, nu, nf + 1) := by rw [caF, if_neg t]
