/-! ===== the reference's numbers: what a request and a cycle do ===== -/
theorem asks_low {g : Int → Int} (hS : InvS g) {i k : Int} (hi : 0 ≤ i) (hk : k < 6) : asksG g i k = g k := by
  have hb := bkG_rng hS (g (70 + 10 * i + 4))
  unfold asksG
  split <;> simp only [up]
  · rw [if_neg (by omega), if_neg (by omega), if_neg (by omega)]
  · rw [if_neg (by omega), if_neg (by omega), if_neg (by omega), if_neg (by omega), if_neg (by omega), if_neg (by omega), if_neg (by omega)]
theorem asks_free {g : Int → Int} (hS : InvS g) {i b : Int} (hi : 0 ≤ i) (hb0 : 0 ≤ b) (hb1 : b < 16) : asksG g i (6 + 4 * b) = if b = bkG g (g (70 + 10 * i + 4)) ∧ ¬ g (6 + 4 * bkG g (g (70 + 10 * i + 4))) > g 4 then g 4 + g 1 else g (6 + 4 * b) := by
  have hb := bkG_rng hS (g (70 + 10 * i + 4))
  unfold asksG
  by_cases hc : g (6 + 4 * bkG g (g (70 + 10 * i + 4))) > g 4
  · rw [if_pos hc, if_neg (show ¬ (b = bkG g (g (70 + 10 * i + 4)) ∧ ¬ g (6 + 4 * bkG g (g (70 + 10 * i + 4))) > g 4) from fun h => h.2 hc)]
    simp only [up]
    rw [if_neg (by omega), if_neg (by omega), if_neg (by omega)]
  · rw [if_neg hc]
    simp only [up]
    rw [if_neg (by omega), if_neg (by omega), if_neg (by omega), if_neg (by omega), if_neg (by omega), if_neg (by omega)]
    by_cases he : b = bkG g (g (70 + 10 * i + 4))
    · rw [if_pos (by omega), if_pos ⟨he, hc⟩]
    · rw [if_neg (by omega), if_neg (fun h => he h.1)]
theorem asks_owner {g : Int → Int} (hS : InvS g) {i b : Int} (hi : 0 ≤ i) (hb0 : 0 ≤ b) (hb1 : b < 16) : asksG g i (6 + 4 * b + 1) = if b = bkG g (g (70 + 10 * i + 4)) ∧ ¬ g (6 + 4 * bkG g (g (70 + 10 * i + 4))) > g 4 then i else g (6 + 4 * b + 1) := by
  have hb := bkG_rng hS (g (70 + 10 * i + 4))
  unfold asksG
  by_cases hc : g (6 + 4 * bkG g (g (70 + 10 * i + 4))) > g 4
  · rw [if_pos hc, if_neg (show ¬ (b = bkG g (g (70 + 10 * i + 4)) ∧ ¬ g (6 + 4 * bkG g (g (70 + 10 * i + 4))) > g 4) from fun h => h.2 hc)]
    simp only [up]
    rw [if_neg (by omega), if_neg (by omega), if_neg (by omega)]
  · rw [if_neg hc]
    simp only [up]
    rw [if_neg (by omega), if_neg (by omega), if_neg (by omega), if_neg (by omega), if_neg (by omega)]
    by_cases he : b = bkG g (g (70 + 10 * i + 4))
    · rw [if_pos (by omega), if_pos ⟨he, hc⟩]
    · rw [if_neg (by omega), if_neg (by omega), if_neg (fun h => he h.1)]
/-- another stream's numbers stay -/
theorem asks_other {g : Int → Int} (hS : InvS g) {i j k : Int} (hi : 0 ≤ i) (hj : 0 ≤ j) (hij : j ≠ i) (hk0 : 0 ≤ k) (hk : k < 10) : asksG g i (70 + 10 * j + k) = g (70 + 10 * j + k) := by
  have hb := bkG_rng hS (g (70 + 10 * i + 4))
  unfold asksG
  split <;> simp only [up]
  · rw [if_neg (by omega), if_neg (by omega), if_neg (by omega)]
  · rw [if_neg (by omega), if_neg (by omega), if_neg (by omega), if_neg (by omega), if_neg (by omega), if_neg (by omega), if_neg (by omega)]
theorem asks_stall {g : Int → Int} (hS : InvS g) {i k : Int} (hi : 0 ≤ i) (hc : g (6 + 4 * bkG g (g (70 + 10 * i + 4))) > g 4) (hk0 : 0 ≤ k) (hk : k < 6 ∨ k = 8 ∨ k = 9) : asksG g i (70 + 10 * i + k) = g (70 + 10 * i + k) := by
  have hb := bkG_rng hS (g (70 + 10 * i + 4))
  unfold asksG
  rw [if_pos hc]
  simp only [up]
  rw [if_neg (by omega), if_neg (by omega), if_neg (by omega)]
theorem asks_done {g : Int → Int} (hS : InvS g) {i : Int} (hi : 0 ≤ i) (hc : ¬ g (6 + 4 * bkG g (g (70 + 10 * i + 4))) > g 4) :
    asksG g i (70 + 10 * i) = g (70 + 10 * i) ∧ asksG g i (70 + 10 * i + 1) = g (70 + 10 * i + 1) ∧ asksG g i (70 + 10 * i + 2) = g (70 + 10 * i + 2) ∧ asksG g i (70 + 10 * i + 3) = g (70 + 10 * i + 3) - 1 ∧ asksG g i (70 + 10 * i + 4) = (g (70 + 10 * i + 4) + g (70 + 10 * i + 1)) % 4096 ∧ asksG g i (70 + 10 * i + 5) = g (70 + 10 * i + 4) ∧ asksG g i (70 + 10 * i + 6) = g (70 + 10 * i + 6) ∧ asksG g i (70 + 10 * i + 7) = g (70 + 10 * i + 7) ∧ asksG g i (70 + 10 * i + 8) = if g (70 + 10 * i + 3) - 1 = 0 then g 4 else -1 := by
  have hb := bkG_rng hS (g (70 + 10 * i + 4))
  unfold asksG
  rw [if_neg hc]
  simp only [up]
  refine ⟨?_, ?_, ?_, ?_, ?_, ?_, ?_, ?_, ?_⟩
  · rw [if_neg (by omega), if_neg (by omega), if_neg (by omega), if_neg (by omega), if_neg (by omega), if_neg (by omega), if_neg (by omega)]
  · rw [if_neg (by omega), if_neg (by omega), if_neg (by omega), if_neg (by omega), if_neg (by omega), if_neg (by omega), if_neg (by omega)]
  · rw [if_neg (by omega), if_neg (by omega), if_neg (by omega), if_neg (by omega), if_neg (by omega), if_neg (by omega), if_neg (by omega)]
  · rw [if_neg (by omega), if_pos trivial]
  · rw [if_neg (by omega), if_neg (by omega), if_pos trivial]
  · rw [if_neg (by omega), if_neg (by omega), if_neg (by omega), if_pos trivial]
  · rw [if_neg (by omega), if_neg (by omega), if_neg (by omega), if_neg (by omega), if_neg (by omega), if_neg (by omega), if_neg (by omega)]
  · rw [if_neg (by omega), if_neg (by omega), if_neg (by omega), if_neg (by omega), if_neg (by omega), if_neg (by omega), if_neg (by omega)]
  · rw [if_pos trivial]
theorem asksR_rng (g : Int → Int) (i : Int) : asksR g i = 0 ∨ asksR g i = 1 := by
  unfold asksR; split <;> simp
theorem asks_left {g : Int → Int} (hS : InvS g) {i : Int} (hi : 0 ≤ i) : asksG g i (70 + 10 * i + 3) = g (70 + 10 * i + 3) - asksR g i := by
  by_cases hc : g (6 + 4 * bkG g (g (70 + 10 * i + 4))) > g 4
  · rw [asks_stall hS hi hc (by omega) (by omega), asksR, if_pos hc]; omega
  · rw [(asks_done hS hi hc).2.2.2.1, asksR, if_neg hc]
theorem asks_inv {g : Int → Int} (hI : Inv g) {i : Int} (hi : 0 ≤ i) (hi5 : i < g 5) (hl : 0 < g (70 + 10 * i + 3)) : Inv (asksG g i) := by
  obtain ⟨hS, hB, hR⟩ := hI
  have e0 := asks_low hS hi (k := 0) (by omega)
  have e1 := asks_low hS hi (k := 1) (by omega)
  have e2 := asks_low hS hi (k := 2) (by omega)
  have e3 := asks_low hS hi (k := 3) (by omega)
  have e4 := asks_low hS hi (k := 4) (by omega)
  have e5 := asks_low hS hi (k := 5) (by omega)
  have hS0 := hS
  obtain ⟨s0, s1, s2, s3, s4, s5⟩ := hS0
  refine ⟨?_, ?_, ?_⟩
  · unfold InvS; rw [e0, e1, e2, e3, e4, e5]; exact hS
  · intro b hb0 hb1
    have h := hB b hb0 hb1
    rw [asks_free hS hi hb0 hb1, asks_owner hS hi hb0 hb1, e4]
    split <;> omega
  · intro j hj0 hj5
    rw [e5] at hj5
    have h := hR j hj0 hj5
    by_cases hij : j = i
    · subst hij
      by_cases hc : g (6 + 4 * bkG g (g (70 + 10 * j + 4))) > g 4
      · have q := fun k h0 h1 => asks_stall hS hj0 hc (k := k) h0 h1
        have q0 := q 0 (by omega) (by omega)
        rw [Int.add_zero] at q0
        unfold rowI
        rw [q0, q 1 (by omega) (by omega), q 2 (by omega) (by omega), q 3 (by omega) (by omega), q 4 (by omega) (by omega), q 5 (by omega) (by omega)]
        exact h
      · obtain ⟨d0, d1, d2, d3, d4, d5, -⟩ := asks_done hS hj0 hc
        unfold rowI at h ⊢
        rw [d0, d1, d2, d3, d4, d5]
        have m1 := Int.emod_nonneg (g (70 + 10 * j + 4) + g (70 + 10 * j + 1)) (by decide : (4096 : Int) ≠ 0)
        have m2 := Int.emod_lt_of_pos (g (70 + 10 * j + 4) + g (70 + 10 * j + 1)) (by decide : (0 : Int) < 4096)
        refine ⟨by omega, by omega, by omega, by omega, by omega, Or.inr ⟨by omega, by omega, by omega, rfl⟩⟩
    · have q := fun k h0 h1 => asks_other hS hi hj0 hij (k := k) h0 h1
      have q0 := q 0 (by omega) (by omega)
      rw [Int.add_zero] at q0
      unfold rowI
      rw [q0, q 1 (by omega) (by omega), q 2 (by omega) (by omega), q 3 (by omega) (by omega), q 4 (by omega) (by omega), q 5 (by omega) (by omega)]
      exact h
/-- a stream that may ask or not -/
def askC (g : Int → Int) (i : Int) : Int → Int := if g (70 + 10 * i + 3) > 0 then asksG g i else g
def askR (g : Int → Int) (i : Int) : Int := if g (70 + 10 * i + 3) > 0 then asksR g i else 0
theorem askR_rng (g : Int → Int) (i : Int) : askR g i = 0 ∨ askR g i = 1 := by
  unfold askR; split
  · exact asksR_rng g i
  · exact Or.inl rfl
theorem askC_inv {g : Int → Int} (hI : Inv g) {i : Int} (hi : 0 ≤ i) (hi5 : i < g 5) : Inv (askC g i) := by
  unfold askC; split
  · exact asks_inv hI hi hi5 (by omega)
  · exact hI
theorem askC_low {g : Int → Int} (hS : InvS g) {i k : Int} (hi : 0 ≤ i) (hk : k < 6) : askC g i k = g k := by
  unfold askC; split
  · exact asks_low hS hi hk
  · rfl
theorem askC_left {g : Int → Int} (hS : InvS g) {i j : Int} (hi : 0 ≤ i) (hj : 0 ≤ j) : askC g i (70 + 10 * j + 3) = g (70 + 10 * j + 3) - if j = i then askR g i else 0 := by
  unfold askC askR
  by_cases hc : g (70 + 10 * i + 3) > 0
  · rw [if_pos hc, if_pos hc]
    by_cases hij : j = i
    · subst hij; rw [if_pos rfl]; exact asks_left hS hi
    · rw [if_neg hij, asks_other hS hi hj hij (by omega) (by omega)]; omega
  · rw [if_neg hc, if_neg hc]; split <;> omega
/-- words left of the first k streams -/
def wlS (g : Int → Int) : Nat → Int
  | 0 => 0
  | k + 1 => wlS g k + g (70 + 10 * (k : Int) + 3)
def wlG (g : Int → Int) : Int := wlS g (g 5).toNat
theorem wlS_ask {g : Int → Int} (hS : InvS g) {i : Int} (hi : 0 ≤ i) : ∀ k : Nat, wlS (askC g i) k = wlS g k - if i < k then askR g i else 0
  | 0 => by simp only [wlS]; rw [if_neg (by omega)]; omega
  | k + 1 => by
    simp only [wlS]
    rw [wlS_ask hS hi k, askC_left hS hi (by omega)]
    by_cases h1 : i < k
    · rw [if_pos h1, if_neg (by omega), if_pos (by omega)]; omega
    · by_cases h2 : (k : Int) = i
      · rw [if_neg h1, if_pos h2, if_pos (by omega)]; omega
      · rw [if_neg h1, if_neg h2, if_neg (by omega)]; omega
theorem wlG_ask {g : Int → Int} (hS : InvS g) {i : Int} (hi : 0 ≤ i) (hi5 : i < g 5) : wlG (askC g i) = wlG g - askR g i := by
  unfold wlG
  rw [askC_low hS hi (by omega), wlS_ask hS hi, if_pos (by omega)]
/-- a cycle: the first k of its turns -/
def cycF (g : Int → Int) (first n : Int) : Nat → (Int → Int) × Int
  | 0 => (g, 0)
  | k + 1 => (askC (cycF g first n k).1 ((first + k) % n), (cycF g first n k).2 + askR (cycF g first n k).1 ((first + k) % n))
def fstG (g : Int → Int) : Int := if g 3 = 1 ∧ g 5 > 0 then g 4 % g 5 else 0
def cycG (g : Int → Int) : Int → Int := up (cycF g (fstG g) (g 5) (g 5).toNat).1 4 (g 4 + 1)
def cycR (g : Int → Int) : Int := (cycF g (fstG g) (g 5) (g 5).toNat).2
theorem cycF_ok {g : Int → Int} (hI : Inv g) {first : Int} (hf : 0 ≤ first) : ∀ k : Nat, (k = 0 ∨ 0 < g 5) → Inv (cycF g first (g 5) k).1 ∧ (∀ j, j < 6 → (cycF g first (g 5) k).1 j = g j) ∧ 0 ≤ (cycF g first (g 5) k).2 ∧ (cycF g first (g 5) k).2 ≤ k ∧ wlG (cycF g first (g 5) k).1 = wlG g - (cycF g first (g 5) k).2
  | 0, _ => ⟨hI, fun _ _ => rfl, by simp only [cycF]; omega, by simp only [cycF]; omega, by simp only [cycF]; omega⟩
  | k + 1, h => by
    have h5 : 0 < g 5 := h.elim (fun q => by omega) id
    obtain ⟨a, b, c, d, e⟩ := cycF_ok hI hf k (Or.inr h5)
    have m1 := Int.emod_nonneg (first + (k : Int)) (by omega : g 5 ≠ 0)
    have m2 := Int.emod_lt_of_pos (first + (k : Int)) h5
    have b5 := b 5 (by omega)
    have hr := askR_rng (cycF g first (g 5) k).1 ((first + k) % g 5)
    simp only [cycF]
    refine ⟨askC_inv a m1 (by rw [b5]; exact m2), fun j hj => by rw [askC_low a.1 m1 hj]; exact b j hj, by omega, by omega, ?_⟩
    rw [wlG_ask a.1 m1 (by rw [b5]; exact m2), e]; omega
theorem fstG_rng {g : Int → Int} (hS : InvS g) : 0 ≤ fstG g ∧ (fstG g < g 5 ∨ fstG g = 0) ∧ fstG g ≤ 4 := by
  obtain ⟨-, -, -, -, s4, s5⟩ := hS
  unfold fstG
  split
  · rename_i h
    have m1 := Int.emod_nonneg (g 4) (by omega : g 5 ≠ 0)
    have m2 := Int.emod_lt_of_pos (g 4) h.2
    omega
  · omega
theorem cyc_ok {g : Int → Int} (hI : Inv g) (h4 : g 4 < 1000000) : Inv (cycG g) ∧ (cycG g 0 = g 0 ∧ cycG g 1 = g 1 ∧ cycG g 2 = g 2 ∧ cycG g 3 = g 3 ∧ cycG g 4 = g 4 + 1 ∧ cycG g 5 = g 5) ∧ (0 ≤ cycR g ∧ cycR g ≤ 4) ∧ wlG (cycG g) = wlG g - cycR g := by
  obtain ⟨hS, -⟩ := id hI
  obtain ⟨s0, s1, s2, s3, s4, s5⟩ := id hS
  obtain ⟨a, b, c, d, e⟩ := cycF_ok hI (fstG_rng hS).1 (g 5).toNat (by omega)
  obtain ⟨aS, aB, aR⟩ := a
  have u : ∀ j, j ≠ 4 → cycG g j = (cycF g (fstG g) (g 5) (g 5).toNat).1 j := fun j hj => up_ne _ _ hj
  have u4 : cycG g 4 = g 4 + 1 := up_eq _ _ _
  have v : ∀ j, j < 6 → j ≠ 4 → cycG g j = g j := fun j h1 h2 => (u j h2).trans (b j h1)
  have v5 := v 5 (by omega) (by omega)
  refine ⟨⟨?_, ?_, ?_⟩, ⟨v 0 (by omega) (by omega), v 1 (by omega) (by omega), v 2 (by omega) (by omega), v 3 (by omega) (by omega), u4, v5⟩, ⟨c, by unfold cycR; omega⟩, ?_⟩
  · unfold InvS
    rw [v 0 (by omega) (by omega), v 1 (by omega) (by omega), v 2 (by omega) (by omega), v 3 (by omega) (by omega), u4, v5]
    omega
  · intro k hk0 hk1
    have h := aB k hk0 hk1
    have b4 := b 4 (by omega)
    rw [u (6 + 4 * k) (by omega), u4, u (6 + 4 * k + 1) (by omega)]
    omega
  · intro j hj0 hj5
    rw [v5] at hj5
    have h := aR j hj0 (by rw [b 5 (by omega)]; exact hj5)
    unfold rowI at h ⊢
    rw [u _ (by omega), u _ (by omega), u _ (by omega), u _ (by omega), u _ (by omega), u _ (by omega)]
    exact h
  · have w : ∀ k : Nat, wlS (cycG g) k = wlS (cycF g (fstG g) (g 5) (g 5).toNat).1 k := by
      intro k
      induction k with
      | zero => rfl
      | succ k ih => simp only [wlS]; rw [ih, u _ (by omega)]
    unfold wlG at e
    rw [b 5 (by omega)] at e
    unfold wlG cycR
    rw [w, v5]
    exact e
theorem wlS_pos {g : Int → Int} : ∀ k : Nat, 0 < wlS g k → ∃ i : Int, 0 ≤ i ∧ i < k ∧ 0 < g (70 + 10 * i + 3)
  | 0, h => by simp only [wlS] at h; omega
  | k + 1, h => by
    by_cases hk : 0 < g (70 + 10 * (k : Int) + 3)
    · exact ⟨k, by omega, by omega, hk⟩
    · simp only [wlS] at h
      obtain ⟨i, h1, h2, h3⟩ := wlS_pos (g := g) k (by omega)
      exact ⟨i, h1, by omega, h3⟩
theorem wlS_nn {g : Int → Int} (hR : InvR g) : ∀ k : Nat, (k : Int) ≤ g 5 → 0 ≤ wlS g k ∧ wlS g k ≤ 200 * k
  | 0, _ => by simp only [wlS]; omega
  | k + 1, h => by
    have h1 := wlS_nn hR k (by omega)
    obtain ⟨-, -, h2, h3, -⟩ := hR k (by omega) (by omega)
    simp only [wlS]; omega
theorem wlG_nn {g : Int → Int} (hI : Inv g) : 0 ≤ wlG g ∧ wlG g ≤ 800 := by
  obtain ⟨-, -, -, -, -, s5⟩ := hI.1
  have h := wlS_nn hI.2.2 (g 5).toNat (by omega)
  unfold wlG; omega
/-- turns without a request change no bank's end and no words left -/
theorem cycF_idle {g : Int → Int} (hI : Inv g) {first : Int} (hf : 0 ≤ first) (h5 : 0 < g 5) : ∀ k : Nat, (cycF g first (g 5) k).2 = 0 →
    (∀ b, 0 ≤ b → b < 16 → (cycF g first (g 5) k).1 (6 + 4 * b) = g (6 + 4 * b)) ∧ (∀ j, 0 ≤ j → (cycF g first (g 5) k).1 (70 + 10 * j + 3) = g (70 + 10 * j + 3)) ∧
    (∀ j : Nat, j < k → 0 < g (70 + 10 * ((first + j) % g 5) + 3) → ∃ b, 0 ≤ b ∧ b < 16 ∧ g (6 + 4 * b) > g 4)
  | 0, _ => ⟨fun _ _ _ => rfl, fun _ _ => rfl, fun j hj => absurd hj (Nat.not_lt_zero j)⟩
  | k + 1, h => by
    obtain ⟨a, b, c, d, e⟩ := cycF_ok hI hf k (Or.inr h5)
    have m1 := Int.emod_nonneg (first + (k : Int)) (by omega : g 5 ≠ 0)
    have m2 := Int.emod_lt_of_pos (first + (k : Int)) h5
    have hr := askR_rng (cycF g first (g 5) k).1 ((first + k) % g 5)
    simp only [cycF] at h ⊢
    obtain ⟨i1, i2, i3⟩ := cycF_idle hI hf h5 k (by omega)
    have hr0 : askR (cycF g first (g 5) k).1 ((first + k) % g 5) = 0 := by omega
    refine ⟨fun b' hb0 hb1 => ?_, fun j hj => ?_, fun j hj hl => ?_⟩
    · rw [← i1 b' hb0 hb1]
      unfold askC
      split
      · rename_i hc
        rw [asks_free a.1 m1 hb0 hb1, if_neg]
        intro hq
        unfold askR asksR at hr0
        rw [if_pos hc, if_neg hq.2] at hr0
        omega
      · rfl
    · rw [askC_left a.1 m1 hj, i2 j hj, hr0]; split <;> omega
    · by_cases hjk : j < k
      · exact i3 j hjk hl
      · have hjk2 : j = k := by omega
        subst hjk2
        rw [← i2 _ m1] at hl
        unfold askR asksR at hr0
        rw [if_pos hl] at hr0
        by_cases hc : (cycF g first (g 5) j).1 (6 + 4 * bkG (cycF g first (g 5) j).1 ((cycF g first (g 5) j).1 (70 + 10 * ((first + j) % g 5) + 4))) > (cycF g first (g 5) j).1 4
        · have hb := bkG_rng a.1 ((cycF g first (g 5) j).1 (70 + 10 * ((first + j) % g 5) + 4))
          rw [i1 _ hb.1 hb.2.2, b 4 (by omega)] at hc
          exact ⟨_, hb.1, hb.2.2, hc⟩
        · rw [if_neg hc] at hr0; omega
theorem cyc_pot {g : Int → Int} {w : Int} (hI : Inv g) (h4 : g 4 < 1000000) (hw : 0 ≤ w) (hB : ∀ b, 0 ≤ b → b < 16 → g (6 + 4 * b) - g 4 ≤ w) (hl : 0 < wlG g) :
    ∃ w', 0 ≤ w' ∧ (∀ b, 0 ≤ b → b < 16 → cycG g (6 + 4 * b) - cycG g 4 ≤ w') ∧ 13 * wlG (cycG g) + w' < 13 * wlG g + w := by
  obtain ⟨c1, c2, c3, c4⟩ := cyc_ok hI h4
  by_cases hr : 0 < cycR g
  · refine ⟨12, by omega, fun b h0 h1 => ?_, by omega⟩
    have := c1.2.1 b h0 h1
    omega
  · have hf := fstG_rng hI.1
    obtain ⟨-, -, -, -, -, s5⟩ := id hI.1
    obtain ⟨i, hi0, hi1, hi2⟩ := wlS_pos (g 5).toNat hl
    have h5 : 0 < g 5 := by omega
    obtain ⟨i1, i2, i3⟩ := cycF_idle hI hf.1 h5 (g 5).toNat (by unfold cycR at hr c3; omega)
    have hj : ∃ j : Nat, j < (g 5).toNat ∧ (fstG g + j) % g 5 = i := by
      refine ⟨((i - fstG g) % g 5).toNat, ?_, ?_⟩
      · have := Int.emod_nonneg (i - fstG g) (by omega : g 5 ≠ 0)
        have := Int.emod_lt_of_pos (i - fstG g) h5
        omega
      · rcases (by omega : g 5 = 1 ∨ g 5 = 2 ∨ g 5 = 3 ∨ g 5 = 4) with h | h | h | h <;> rw [h] at hi1 hf ⊢ <;> omega
    obtain ⟨j, hj1, hj2⟩ := hj
    obtain ⟨b, hb0, hb1, hb2⟩ := i3 j hj1 (by rw [hj2]; exact hi2)
    have := hB b hb0 hb1
    refine ⟨w - 1, by omega, fun b' h0 h1 => ?_, by omega⟩
    have hq := hB b' h0 h1
    have e1 : cycG g (6 + 4 * b') = (cycF g (fstG g) (g 5) (g 5).toNat).1 (6 + 4 * b') := up_ne _ _ (by omega)
    rw [e1, i1 b' h0 h1, c2.2.2.2.2.1]
    omega
/-- until all streams are done -/
def roC : Nat → (Int → Int) → Int
  | 0, _ => 0
  | n + 1, g => if wlG g > 0 then 1 + roC n (cycG g) else 0
def roS : Nat → (Int → Int) → (Int → Int)
  | 0, g => g
  | n + 1, g => if wlG g > 0 then roS n (cycG g) else g
theorem cycF_next {g f : Int → Int} {F z y : Int} {k : Nat} (hf : f = (cycF g F (g 5) k).1) (hz : z = (cycF g F (g 5) k).2) (hy : y = k) (h5 : f 5 = g 5) :
    (0 < f (70 + 10 * ((F + y) % f 5) + 3) → asksG f ((F + y) % f 5) = (cycF g F (g 5) (k + 1)).1 ∧ z + asksR f ((F + y) % f 5) = (cycF g F (g 5) (k + 1)).2) ∧
    (¬ 0 < f (70 + 10 * ((F + y) % f 5) + 3) → f = (cycF g F (g 5) (k + 1)).1 ∧ z = (cycF g F (g 5) (k + 1)).2) := by
  simp only [cycF]
  rw [← hf, ← hz, ← h5, ← hy]
  refine ⟨fun h => ⟨?_, ?_⟩, fun h => ⟨?_, ?_⟩⟩
  · rw [askC, if_pos h]
  · rw [askR, if_pos h]
  · rw [askC, if_neg h]
  · rw [askR, if_neg h]; omega
/-- begins -/
def bgnG (g : Int → Int) (i : Int) : Int → Int := up (up (up (up (up (up g (70 + 10 * i + 3) (g (70 + 10 * i + 2))) (70 + 10 * i + 4) (g (70 + 10 * i))) (70 + 10 * i + 5) (-1)) (70 + 10 * i + 6) 0) (70 + 10 * i + 7) 0) (70 + 10 * i + 8) (-1)
def clr (n : Int) (g : Int → Int) : Int → Int := fun k => if 6 ≤ k ∧ k < 6 + n then 0 else g k
theorem clr_0 (g : Int → Int) : clr 0 g = g := funext fun k => if_neg (by omega)
theorem clr_up (g : Int → Int) {n : Int} (hn : 0 ≤ n) : up (clr n g) (6 + n) 0 = clr (n + 1) g := by
  funext j
  simp only [up, clr]
  by_cases h1 : j = 6 + n
  · subst h1; rw [if_pos rfl, if_pos (by omega)]
  · rw [if_neg h1]
    by_cases h2 : 6 ≤ j ∧ j < 6 + n
    · rw [if_pos h2, if_pos (by omega)]
    · rw [if_neg h2, if_neg (by omega)]
def bgaS (g : Int → Int) : Nat → (Int → Int)
  | 0 => g
  | k + 1 => bgnG (bgaS g k) k
def bgaG (g : Int → Int) : Int → Int := bgaS (clr 64 (up g 4 0)) (g 5).toNat
theorem bgn_out (g : Int → Int) {i k : Int} (h : k < 70 + 10 * i + 3 ∨ 70 + 10 * i + 9 ≤ k) : bgnG g i k = g k := by
  simp only [bgnG, up]
  rw [if_neg (by omega), if_neg (by omega), if_neg (by omega), if_neg (by omega), if_neg (by omega), if_neg (by omega)]
theorem bgn_in (g : Int → Int) (i : Int) : bgnG g i (70 + 10 * i + 3) = g (70 + 10 * i + 2) ∧ bgnG g i (70 + 10 * i + 4) = g (70 + 10 * i) ∧ bgnG g i (70 + 10 * i + 5) = -1 ∧ bgnG g i (70 + 10 * i + 6) = 0 ∧ bgnG g i (70 + 10 * i + 7) = 0 ∧ bgnG g i (70 + 10 * i + 8) = -1 := by
  simp only [bgnG, up]
  refine ⟨?_, ?_, ?_, ?_, ?_, ?_⟩
  · rw [if_neg (by omega), if_neg (by omega), if_neg (by omega), if_neg (by omega), if_neg (by omega), if_pos trivial]
  · rw [if_neg (by omega), if_neg (by omega), if_neg (by omega), if_neg (by omega), if_pos trivial]
  · rw [if_neg (by omega), if_neg (by omega), if_neg (by omega), if_pos trivial]
  · rw [if_neg (by omega), if_neg (by omega), if_pos trivial]
  · rw [if_neg (by omega), if_pos trivial]
  · rw [if_pos trivial]
theorem bgaS_low (g : Int → Int) : ∀ (k : Nat) (j : Int), j < 70 → bgaS g k j = g j
  | 0, _, _ => rfl
  | k + 1, j, h => by simp only [bgaS]; rw [bgn_out _ (by omega), bgaS_low g k j h]
