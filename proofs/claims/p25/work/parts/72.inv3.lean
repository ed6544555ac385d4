/-! ===== words by banks, banks met ===== -/
def sB (f : Int → Int) : Nat → Int
  | 0 => 0
  | k + 1 => sB f k + f k
theorem sB_add (f h : Int → Int) : ∀ n : Nat, sB (fun b => f b + h b) n = sB f n + sB h n
  | 0 => rfl
  | n + 1 => by simp only [sB]; rw [sB_add f h n]; omega
theorem sB_zero : ∀ n : Nat, sB (fun _ => 0) n = 0
  | 0 => rfl
  | n + 1 => by simp only [sB]; rw [sB_zero n]; rfl
theorem sB_one {c : Int} (h0 : 0 ≤ c) : ∀ n : Nat, sB (fun b => if c = b then 1 else 0) n = if c < n then 1 else 0
  | 0 => by simp only [sB]; rw [if_neg (by omega)]
  | n + 1 => by
    simp only [sB]; rw [sB_one h0 n]
    by_cases h : c < n
    · rw [if_pos h, if_neg (by omega), if_pos (by omega)]; rfl
    · rw [if_neg h]
      by_cases e : c = n
      · rw [if_pos e, if_pos (by omega)]; rfl
      · rw [if_neg e, if_neg (by omega)]; rfl
def wbS (g : Int → Int) : Nat → Int
  | 0 => 0
  | k + 1 => wbS g k + wiG g k
theorem wbS_sB (g : Int → Int) : ∀ n : Nat, wbS g n = sB (fun b => wiG g b) n
  | 0 => rfl
  | n + 1 => by simp only [wbS, sB]; rw [wbS_sB g n]
theorem wiR_sum {g : Int → Int} (hS : InvS g) (i : Int) {n : Nat} (hn : g 0 ≤ n) : ∀ m : Nat, sB (fun b => wiR g i b m) n = m
  | 0 => by simp only [wiR]; rw [sB_zero]; rfl
  | m + 1 => by
    have hb := bkG_rng hS ((g (70 + 10 * i + 4) + (m : Int) * g (70 + 10 * i + 1)) % 4096)
    simp only [wiR]
    rw [sB_add, wiR_sum hS i hn m, sB_one hb.1, if_pos (by omega)]; omega
theorem wiS_sum {g : Int → Int} (hI : Inv g) {n : Nat} (hn : g 0 ≤ n) : ∀ k : Nat, (k : Int) ≤ g 5 → sB (fun b => wiS g b k) n = wlS g k
  | 0, _ => by simp only [wiS]; rw [sB_zero]; rfl
  | k + 1, h => by
    obtain ⟨-, -, -, r3, -⟩ := hI.2.2 k (by omega) (by omega)
    simp only [wiS, wlS]
    rw [sB_add, wiS_sum hI hn k (by omega), wiR_sum hI.1 k hn]; omega
theorem wb_all {g : Int → Int} (hI : Inv g) : wbS g (g 0).toNat = wlG g := by
  have s0 := hI.1.1
  have s5 := hI.1.2.2.2.2.2
  rw [wbS_sB]
  exact wiS_sum hI (by omega) _ (by omega)
theorem wiR_rng {g : Int → Int} {i b : Int} : ∀ m : Nat, 0 ≤ wiR g i b m ∧ wiR g i b m ≤ m
  | 0 => by simp only [wiR]; omega
  | m + 1 => by
    have := wiR_rng (g := g) (i := i) (b := b) m
    simp only [wiR]
    split <;> omega
theorem wiS_rng {g : Int → Int} (hI : Inv g) {b : Int} : ∀ k : Nat, (k : Int) ≤ g 5 → 0 ≤ wiS g b k ∧ wiS g b k ≤ 200 * k
  | 0, _ => by simp only [wiS]; omega
  | k + 1, h => by
    obtain ⟨-, -, r2, r3, -⟩ := hI.2.2 k (by omega) (by omega)
    have a := wiS_rng hI (b := b) k (by omega)
    have c := wiR_rng (g := g) (i := k) (b := b) (g (70 + 10 * (k : Int) + 3)).toNat
    simp only [wiS]; omega
theorem wiG_rng {g : Int → Int} (hI : Inv g) (b : Int) : 0 ≤ wiG g b ∧ wiG g b ≤ 800 := by
  have s5 := hI.1.2.2.2.2.2
  have := wiS_rng hI (b := b) (g 5).toNat (by omega)
  unfold wiG; omega
theorem wbS_rng {g : Int → Int} (hI : Inv g) : ∀ k : Nat, 0 ≤ wbS g k ∧ wbS g k ≤ 800 * k
  | 0 => by simp only [wbS]; omega
  | k + 1 => by
    have := wbS_rng hI k
    have := wiG_rng hI k
    simp only [wbS]; omega
theorem wiR_none {g : Int → Int} {i b : Int} (h : ∀ a, bkG g a ≠ b) : ∀ m : Nat, wiR g i b m = 0
  | 0 => rfl
  | m + 1 => by simp only [wiR]; rw [wiR_none h m, if_neg (h _)]; rfl
theorem wiS_none {g : Int → Int} {b : Int} (h : ∀ a, bkG g a ≠ b) : ∀ k : Nat, wiS g b k = 0
  | 0 => rfl
  | k + 1 => by simp only [wiS]; rw [wiS_none h k, wiR_none h]; rfl
theorem wiG_none {g : Int → Int} (hS : InvS g) {b : Int} (h2 : g 2 = 2) (hb : tGP (g 0) ≤ b) : wiG g b = 0 :=
  wiS_none (fun a => by have := bkG_prime hS h2 a; omega) _
/-- sums of streams and of banks, so far -/
theorem ofS_rng {g : Int → Int} (hI : Inv g) (hP : PI g) : ∀ k : Nat, (k : Int) ≤ g 5 → (0 ≤ ofS g 7 k ∧ ofS g 7 k ≤ 200 * k) ∧ (0 ≤ ofS g 8 k ∧ ofS g 8 k ≤ k * 1000000) ∧ (0 ≤ ofS g 9 k ∧ ofS g 9 k ≤ k * 1000000)
  | 0, _ => by simp only [ofS]; omega
  | k + 1, h => by
    have a := ofS_rng hI hP k (by omega)
    obtain ⟨-, -, r2, r3, -⟩ := hI.2.2 k (by omega) (by omega)
    obtain ⟨q1, q2, -⟩ := hP.1 k (by omega) (by omega)
    have s4 := hI.1.2.2.2.2.1
    simp only [ofS]
    rw [ofV7, ofV8, ofV9]
    omega
theorem rqS_rng {g : Int → Int} (hI : Inv g) (hP : PI g) : ∀ k : Nat, k ≤ 16 → (0 ≤ rqS g k ∧ rqS g k ≤ 4000000 * k) ∧ (0 ≤ mdS g k ∧ mdS g k ≤ 4000000 * k)
  | 0, _ => by simp only [rqS, mdS]; omega
  | k + 1, h => by
    have a := rqS_rng hI hP k (by omega)
    obtain ⟨-, q2, q3, -⟩ := hP.2.1 k (by omega) (by omega)
    have s4 := hI.1.2.2.2.2.1
    simp only [rqS, mdS]
    omega
/-! banks met -/
theorem nm_le (x : Nat) : ∀ k : Nat, nm x k ≤ k
  | 0 => by simp only [nm]; omega
  | k + 1 => by
    have := nm_le x k
    have h : x >>> k &&& 1 ≤ 1 := Nat.and_le_right
    simp only [nm]; omega
theorem nm_top {x l : Nat} (h : x < 2 ^ l) : ∀ d : Nat, nm x (l + d) = nm x l
  | 0 => rfl
  | d + 1 => by
    have e : nm x (l + (d + 1)) = nm x (l + d) + (x >>> (l + d) &&& 1) := rfl
    have z : x >>> (l + d) = 0 := by
      rw [Nat.shiftRight_eq_div_pow]
      exact Nat.div_eq_of_lt (Nat.lt_of_lt_of_le h (Nat.pow_le_pow_right (by decide) (by omega)))
    rw [e, nm_top h d, z, Nat.zero_and]; rfl
theorem nm_zero {x : Nat} : ∀ k : Nat, nm x k = 0 → x % 2 ^ k = 0
  | 0, _ => by rw [Nat.pow_zero, Nat.mod_one]
  | k + 1, h => by
    simp only [nm] at h
    have h1 := nm_zero (x := x) k (by omega)
    have h2 : x >>> k &&& 1 = 0 := by omega
    rw [Nat.and_one_is_mod, Nat.shiftRight_eq_div_pow] at h2
    rw [Nat.mod_pow_succ, h1, h2, Nat.mul_zero]
theorem nm_pos {x : Nat} (h0 : 0 < x) (h1 : x < 65536) : 1 ≤ nm x 16 := by
  by_cases h : nm x 16 = 0
  · have := nm_zero 16 h
    rw [Nat.mod_eq_of_lt h1] at this; omega
  · omega
theorem mtW_lim {g : Int → Int} (hS : InvS g) (i : Int) {l : Nat} (hl : l ≤ 16) (hb : ∀ a, bkG g a < l) : ∀ k : Nat, ∃ n : Nat, n < 2 ^ l ∧ (0 < k → 0 < n) ∧ mtW g i k = Int32.ofNat n
  | 0 => ⟨0, Nat.pow_pos (by decide), fun h => absurd h (by decide), rfl⟩
  | k + 1 => by
    obtain ⟨n, h1, h2, h3⟩ := mtW_lim hS i hl hb k
    have q := bkG_rng hS ((g (70 + 10 * i) + (k : Int) * g (70 + 10 * i + 1)) % 4096)
    have ql := hb ((g (70 + 10 * i) + (k : Int) * g (70 + 10 * i + 1)) % 4096)
    have e := bit_sh (bkG g ((g (70 + 10 * i) + (k : Int) * g (70 + 10 * i + 1)) % 4096)).toNat (by omega)
    rw [show (((bkG g ((g (70 + 10 * i) + (k : Int) * g (70 + 10 * i + 1)) % 4096)).toNat : Nat) : Int) = bkG g ((g (70 + 10 * i) + (k : Int) * g (70 + 10 * i + 1)) % 4096) by omega] at e
    refine ⟨n ||| 2 ^ (bkG g ((g (70 + 10 * i) + (k : Int) * g (70 + 10 * i + 1)) % 4096)).toNat, Nat.or_lt_two_pow h1 (Nat.pow_lt_pow_right (by decide) (by omega)), fun _ => ?_, ?_⟩
    · exact Nat.lt_of_lt_of_le (Nat.pow_pos (by decide)) Nat.right_le_or
    · simp only [mtW]
      rw [h3, e, bit_or]
theorem met_rng {g : Int → Int} (hS : InvS g) {i : Int} (hk : 1 ≤ g (70 + 10 * i + 2)) : 1 ≤ (mtV g i).toInt ∧ (mtV g i).toInt ≤ if g 2 = 2 then tGP (g 0) else g 0 := by
  have s0 := hS.1
  have h3 := tGP_rng s0.1 s0.2
  have key : ∀ l : Nat, l ≤ 16 → (∀ a, bkG g a < l) → 1 ≤ (mtV g i).toInt ∧ (mtV g i).toInt ≤ l := by
    intro l hl hb
    obtain ⟨n, h1, h2, h4⟩ := mtW_lim hS i hl hb (g (70 + 10 * i + 2)).toNat
    have h5 : n < 65536 := Nat.lt_of_lt_of_le h1 (Nat.pow_le_pow_right (n := 2) (by decide) hl)
    have h6 : nm n 16 = nm n l := by
      have := nm_top h1 (16 - l)
      rwa [show l + (16 - l) = 16 by omega] at this
    have h7 := nm_pos (h2 (by omega)) h5
    have h8 := nm_le n l
    have e : (mtV g i).toInt = (nm n 16 : Int) := by
      unfold mtV
      rw [h4, mtC_nat h5 16 (by decide)]
      have e2 : Int32.ofNat (nm n 16) = iI (nm n 16 : Int) := by
        show _ = Int32.ofInt _
        rw [Int32.ofInt_eq_ofNat]
      rw [e2, iI_toInt ⟨by omega, by omega⟩]
    rw [e]; omega
  by_cases h2 : g 2 = 2
  · rw [if_pos h2]
    have := key (tGP (g 0)).toNat (by omega) (fun a => by have := bkG_prime hS h2 a; omega)
    omega
  · rw [if_neg h2]
    have := key (g 0).toNat (by omega) (fun a => by have := bkG_rng hS a; omega)
    omega
