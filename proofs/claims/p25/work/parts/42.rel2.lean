/-! ===== beginning anew, streams that come and go, strides: both sides alike ===== -/
theorem rel_bga {c g : Int → Int} (hL : RelL c g) (h5 : 0 ≤ g 5 ∧ g 5 ≤ 4) (hI : InvL g) : Rel (bgC c) (bgaG g) := by
  obtain ⟨⟨e0, e1, e2, e3, e5⟩, hQ⟩ := hL
  have lo : ∀ k, k < 6 → k ≠ 4 → bgC c k = c k := fun k h h4 => by unfold bgC; rw [bgR_low _ (by omega), frK_out _ (Or.inl h) _ (by decide), up_ne _ _ h4]
  have c4 : bgC c 4 = 0 := by unfold bgC; rw [bgR_low _ (by decide), frK_out _ (by decide) _ (by decide), up_eq]
  have lg := fun (k : Int) (h : k < 6) (h4 : k ≠ 4) => bga_low (g := g) h h4
  refine ⟨?_, fun b b0 b1 => ?_, fun i i0 i1 => ?_⟩
  · unfold RelS
    rw [lo 0 (by decide) (by decide), lo 1 (by decide) (by decide), lo 2 (by decide) (by decide), lo 3 (by decide) (by decide), c4, lo 5 (by decide) (by decide), lg 0 (by decide) (by decide), lg 1 (by decide) (by decide), lg 2 (by decide) (by decide), lg 3 (by decide) (by decide), bga_cyc, lg 5 (by decide) (by decide)]
    exact ⟨e0, e1, e2, e3, rfl, e5⟩
  · have z := fun k (k0 : 0 ≤ k) (k1 : k < 4) => (bgR_low (frK (up c 4 0) 16) (j := 6 + 4 * b + k) (by omega) (c 5).toNat).trans (frK_in (up c 4 0) b0 k0 k1 16 (by omega))
    have z0 : bgC c (6 + 4 * b) = 0 := by
      have := z 0 (by decide) (by decide)
      rw [Int.add_zero] at this; exact this
    have z1 : bgC c (6 + 4 * b + 1) = -1 := z 1 (by decide) (by decide)
    have z2 : bgC c (6 + 4 * b + 2) = 0 := z 2 (by decide) (by decide)
    have z3 : bgC c (6 + 4 * b + 3) = 0 := z 3 (by decide) (by decide)
    rw [z0, z1, z2, z3, bga_bank g (by omega) (by omega), bga_bank g (by omega) (by omega), bga_bank g (by omega) (by omega)]
    exact ⟨rfl, rfl, rfl, fun h => absurd h (by decide), by decide, by decide⟩
  · rw [lg 5 (by decide) (by decide)] at i1
    obtain ⟨q0, q1, q2⟩ := hQ i i0 i1
    obtain ⟨r0, -, r2⟩ := hI i i0 i1
    obtain ⟨a0, a1, a2, a3⟩ := bga_row g i0
    obtain ⟨b3, b4, b5, b6, b7, b8⟩ := a3 i1
    have fr : ∀ k, 0 ≤ k → k < 8 → fRow (frK (up c 4 0) 16) i k = c (70 + 10 * i + k) := fun k k0 k1 => by
      show frK (up c 4 0) 16 (70 + 10 * i + k) = _
      rw [frK_out _ (by omega) _ (by decide), up_ne _ _ (by omega)]
    have z := fun k (k0 : 0 ≤ k) (k1 : k < 8) => bgR_in (frK (up c 4 0) 16) i0 k0 k1 (c 5).toNat (by omega)
    have f0 := fr 0 (by decide) (by decide)
    rw [Int.add_zero] at f0
    have z0 : bgC c (70 + 10 * i) = c (70 + 10 * i) := by
      have := z 0 (by decide) (by decide)
      rw [Int.add_zero] at this
      exact this.trans f0
    have z1 : bgC c (70 + 10 * i + 1) = c (70 + 10 * i + 1) := (z 1 (by decide) (by decide)).trans (fr 1 (by decide) (by decide))
    have z2 : bgC c (70 + 10 * i + 2) = c (70 + 10 * i + 2) := (z 2 (by decide) (by decide)).trans (fr 2 (by decide) (by decide))
    have z3 : bgC c (70 + 10 * i + 3) = c (70 + 10 * i + 2) := (z 3 (by decide) (by decide)).trans (fr 2 (by decide) (by decide))
    have z4 : bgC c (70 + 10 * i + 4) = c (70 + 10 * i) := (z 4 (by decide) (by decide)).trans f0
    have z5 : bgC c (70 + 10 * i + 5) = 0 := z 5 (by decide) (by decide)
    have z6 : bgC c (70 + 10 * i + 6) = 0 := z 6 (by decide) (by decide)
    have z7 : bgC c (70 + 10 * i + 7) = -6 := z 7 (by decide) (by decide)
    unfold RelR
    rw [z0, z1, z2, z3, z4, z5, z6, z7, a0, a1, a2, b3, b5, b6, b7, b8, if_neg (by omega)]
    exact ⟨q0, q1, q2, q2, by omega, fun h => absurd h (by decide), rfl, rfl, rfl⟩
theorem rel_puts {c g : Int → Int} (hR : Rel c g) (h5 : 0 ≤ g 5 ∧ g 5 < 4) {a b z : Int} (ha : 0 ≤ a ∧ a < 4096) (hz : 1 ≤ z) : Rel (apC c a b z) (putsG g a b z) := by
  obtain ⟨⟨e0, e1, e2, e3, e4, e5⟩, hB, hQ⟩ := hR
  have cl : ∀ k, k < 70 → k ≠ 5 → apC c a b z k = c k := fun k h h5 => by rw [apC, up_ne _ _ h5, setR_out _ _ _ (by omega)]
  have gl : ∀ k, k < 70 → k ≠ 5 → putsG g a b z k = g k := fun k h h5' => by rw [putsG, up_ne _ _ h5', bgn_out _ (by omega), up_ne _ _ (by omega), up_ne _ _ (by omega), up_ne _ _ (by omega)]
  have c5 : apC c a b z 5 = c 5 + 1 := up_eq _ _ _
  have g5 : putsG g a b z 5 = g 5 + 1 := up_eq _ _ _
  refine ⟨?_, fun j j0 j1 => ?_, fun i i0 i1 => ?_⟩
  · unfold RelS
    rw [cl 0 (by decide) (by decide), cl 1 (by decide) (by decide), cl 2 (by decide) (by decide), cl 3 (by decide) (by decide), cl 4 (by decide) (by decide), c5, gl 0 (by decide) (by decide), gl 1 (by decide) (by decide), gl 2 (by decide) (by decide), gl 3 (by decide) (by decide), gl 4 (by decide) (by decide), g5, e5]
    exact ⟨e0, e1, e2, e3, e4, rfl⟩
  · rw [cl _ (by omega) (by omega), cl _ (by omega) (by omega), cl _ (by omega) (by omega), cl _ (by omega) (by omega), gl _ (by omega) (by omega), gl _ (by omega) (by omega), gl _ (by omega) (by omega), gl _ (by omega) (by omega)]
    exact hB j j0 j1
  · rw [g5] at i1
    by_cases e : i = g 5
    · subst e
      have v := fun k (k0 : 0 ≤ k) (k1 : k < 8) => (up_ne (setR c (c 5) (rwBegin (v8 a b z (c (70 + 10 * c 5 + 3)) (c (70 + 10 * c 5 + 4)) (c (70 + 10 * c 5 + 5)) (c (70 + 10 * c 5 + 6)) (c (70 + 10 * c 5 + 7))))) (k := 5) (c 5 + 1) (by omega : 70 + 10 * c 5 + k ≠ 5)).trans (setR_in c (c 5) _ k0 k1)
      rw [← e5]
      have v0 : apC c a b z (70 + 10 * c 5) = a := by
        have := v 0 (by decide) (by decide)
        rw [Int.add_zero] at this; exact this
      have v1 : apC c a b z (70 + 10 * c 5 + 1) = b := v 1 (by decide) (by decide)
      have v2 : apC c a b z (70 + 10 * c 5 + 2) = z := v 2 (by decide) (by decide)
      have v3 : apC c a b z (70 + 10 * c 5 + 3) = z := v 3 (by decide) (by decide)
      have v4 : apC c a b z (70 + 10 * c 5 + 4) = a := v 4 (by decide) (by decide)
      have v5 : apC c a b z (70 + 10 * c 5 + 5) = 0 := v 5 (by decide) (by decide)
      have v6 : apC c a b z (70 + 10 * c 5 + 6) = 0 := v 6 (by decide) (by decide)
      have v7 : apC c a b z (70 + 10 * c 5 + 7) = -6 := v 7 (by decide) (by decide)
      have w := bgn_in (up (up (up g (70 + 10 * g 5) a) (70 + 10 * g 5 + 1) b) (70 + 10 * g 5 + 2) z) (g 5)
      obtain ⟨w3, w4, w5, w6, w7, w8⟩ := w
      have u := fun k (hk : k ≠ 5) => (up_ne (bgnG (up (up (up g (70 + 10 * g 5) a) (70 + 10 * g 5 + 1) b) (70 + 10 * g 5 + 2) z) (g 5)) (k := 5) (g 5 + 1) hk)
      have x0 : putsG g a b z (70 + 10 * g 5) = a := by
        rw [putsG, u _ (by omega), bgn_out _ (by omega), up_ne _ _ (by omega), up_ne _ _ (by omega), up_eq]
      have x1 : putsG g a b z (70 + 10 * g 5 + 1) = b := by
        rw [putsG, u _ (by omega), bgn_out _ (by omega), up_ne _ _ (by omega), up_eq]
      have x2 : putsG g a b z (70 + 10 * g 5 + 2) = z := by
        rw [putsG, u _ (by omega), bgn_out _ (by omega), up_eq]
      have x3 : putsG g a b z (70 + 10 * g 5 + 3) = z := by
        rw [putsG, u _ (by omega), w3, up_eq]
      have x5 : putsG g a b z (70 + 10 * g 5 + 5) = -1 := by rw [putsG, u _ (by omega), w5]
      have x6 : putsG g a b z (70 + 10 * g 5 + 6) = 0 := by rw [putsG, u _ (by omega), w6]
      have x7 : putsG g a b z (70 + 10 * g 5 + 7) = 0 := by rw [putsG, u _ (by omega), w7]
      rw [e5] at v0 v1 v2 v3 v4 v5 v6 v7 ⊢
      unfold RelR
      rw [v0, v1, v2, v3, v4, v5, v6, v7, x0, x1, x2, x3, x5, x6, x7, if_neg (by omega)]
      exact ⟨rfl, rfl, rfl, rfl, ha, fun h => absurd h (by decide), rfl, rfl, rfl⟩
    · refine (hQ i i0 (by omega)).of (fun k k0 k1 => ?_) (fun k k0 k1 => ?_)
      · rw [apC, up_ne _ _ (by omega), setR_out _ _ _ (by omega)]
      · rw [putsG, up_ne _ _ (by omega), bgn_out _ (by omega), up_ne _ _ (by omega), up_ne _ _ (by omega), up_ne _ _ (by omega)]
theorem rel_drop {c g : Int → Int} (hR : Rel c g) (h5 : g 5 ≤ 4) {i : Int} (i0 : 0 ≤ i) (i1 : i < g 5) : Rel (rmC c i) (dropG g i) := by
  obtain ⟨⟨e0, e1, e2, e3, e4, e5⟩, hB, hQ⟩ := hR
  have cl : ∀ k, k < 6 → k ≠ 5 → rmC c i k = c k := fun k h h5 => by rw [rmC, own_out _ (by omega), up_ne _ _ h5, rotC, if_neg (by omega), if_neg (by omega)]
  have gl : ∀ k, k < 6 → k ≠ 5 → dropG g i k = g k := fun k h h5' => by rw [dropG, up_ne _ _ h5', own_out _ (by omega), shr_out _ (by omega)]
  have c5 : rmC c i 5 = c 5 - 1 := by rw [rmC, own_out _ (by omega), up_eq]
  have g5 : dropG g i 5 = g 5 - 1 := up_eq _ _ _
  refine ⟨?_, fun j j0 j1 => ?_, fun j j0 j1 => ?_⟩
  · unfold RelS
    rw [cl 0 (by decide) (by decide), cl 1 (by decide) (by decide), cl 2 (by decide) (by decide), cl 3 (by decide) (by decide), cl 4 (by decide) (by decide), c5, gl 0 (by decide) (by decide), gl 1 (by decide) (by decide), gl 2 (by decide) (by decide), gl 3 (by decide) (by decide), gl 4 (by decide) (by decide), g5, e5]
    exact ⟨e0, e1, e2, e3, e4, rfl⟩
  · have cb : ∀ k, 0 ≤ k → k < 4 → k ≠ 1 → rmC c i (6 + 4 * j + k) = c (6 + 4 * j + k) := fun k k0 k1 k2 => by rw [rmC, own_out _ (by omega), up_ne _ _ (by omega), rotC, if_neg (by omega), if_neg (by omega)]
    have gb : ∀ k, 0 ≤ k → k < 4 → k ≠ 1 → dropG g i (6 + 4 * j + k) = g (6 + 4 * j + k) := fun k k0 k1 k2 => by rw [dropG, up_ne _ _ (by omega), own_out _ (by omega), shr_out _ (by omega)]
    have cm : rmC c i (6 + 4 * j + 1) = ownV i (c (6 + 4 * j + 1)) := by rw [rmC, own, if_pos (by omega), up_ne _ _ (by omega), rotC, if_neg (by omega), if_neg (by omega)]
    have gm : dropG g i (6 + 4 * j + 1) = ownV i (g (6 + 4 * j + 1)) := by rw [dropG, up_ne _ _ (by omega), own, if_pos (by omega), shr_out _ (by omega)]
    have c0 := cb 0 (by decide) (by decide) (by decide)
    have g0 := gb 0 (by decide) (by decide) (by decide)
    rw [Int.add_zero] at c0 g0
    rw [c0, g0, cb 2 (by decide) (by decide) (by decide), gb 2 (by decide) (by decide) (by decide), cb 3 (by decide) (by decide) (by decide), gb 3 (by decide) (by decide) (by decide), cm, gm]
    obtain ⟨b0, b2, b3, b1, b4⟩ := hB j j0 j1
    exact ⟨b0, b2, b3, fun h => congrArg (ownV i) (b1 h), by unfold ownV; split <;> (try split) <;> omega, by unfold ownV; split <;> (try split) <;> omega⟩
  · rw [g5] at j1
    by_cases e : i ≤ j
    · have cr : ∀ k, 0 ≤ k → k < 10 → rmC c i (70 + 10 * j + k) = c (70 + 10 * (j + 1) + k) := fun k k0 k1 => by
        rw [rmC, own_out _ (by omega), up_ne _ _ (by omega), rotC, if_pos (by omega)]; congr 1; omega
      have gr : ∀ k, 0 ≤ k → k < 10 → dropG g i (70 + 10 * j + k) = g (70 + 10 * (j + 1) + k) := fun k k0 k1 => by
        rw [dropG, up_ne _ _ (by omega), own_out _ (by omega), shr, if_pos (by omega)]; congr 1; omega
      have c0 := cr 0 (by decide) (by decide)
      have g0 := gr 0 (by decide) (by decide)
      rw [Int.add_zero, Int.add_zero] at c0 g0
      have h := hQ (j + 1) (by omega) (by omega)
      unfold RelR at h ⊢
      rw [c0, g0, cr 1 (by decide) (by decide), cr 2 (by decide) (by decide), cr 3 (by decide) (by decide), cr 4 (by decide) (by decide), cr 5 (by decide) (by decide), cr 6 (by decide) (by decide), cr 7 (by decide) (by decide), gr 1 (by decide) (by decide), gr 2 (by decide) (by decide), gr 3 (by decide) (by decide), gr 5 (by decide) (by decide), gr 6 (by decide) (by decide), gr 7 (by decide) (by decide), gr 8 (by decide) (by decide)]
      exact h
    · refine (hQ j j0 (by omega)).of (fun k k0 k1 => ?_) (fun k k0 k1 => ?_)
      · rw [rmC, own_out _ (by omega), up_ne _ _ (by omega), rotC, if_neg (by omega), if_neg (by omega)]
      · rw [dropG, up_ne _ _ (by omega), own_out _ (by omega), shr_out _ (by omega)]
theorem rel_stride {c g : Int → Int} (hR : Rel c g) {i v : Int} (i0 : 0 ≤ i) : Rel (up c (70 + 10 * i + 1) v) (strG g i v) := by
  obtain ⟨⟨e0, e1, e2, e3, e4, e5⟩, hB, hQ⟩ := hR
  have gl : ∀ k, k ≠ 70 + 10 * i + 1 → k ≠ 70 + 10 * i + 4 → strG g i v k = g k := fun k h1 h4 => by rw [strG, up_ne _ _ h4, up_ne _ _ h1]
  have g1 : strG g i v (70 + 10 * i + 1) = v := by rw [strG, up_ne _ _ (by omega), up_eq]
  refine ⟨?_, fun j j0 j1 => ?_, fun j j0 j1 => ?_⟩
  · unfold RelS
    rw [up_ne _ _ (by omega), up_ne _ _ (by omega), up_ne _ _ (by omega), up_ne _ _ (by omega), up_ne _ _ (by omega), up_ne _ _ (by omega), gl 0 (by omega) (by omega), gl 1 (by omega) (by omega), gl 2 (by omega) (by omega), gl 3 (by omega) (by omega), gl 4 (by omega) (by omega), gl 5 (by omega) (by omega)]
    exact ⟨e0, e1, e2, e3, e4, e5⟩
  · rw [up_ne _ _ (by omega), up_ne _ _ (by omega), up_ne _ _ (by omega), up_ne _ _ (by omega), gl _ (by omega) (by omega), gl _ (by omega) (by omega), gl _ (by omega) (by omega), gl _ (by omega) (by omega)]
    exact hB j j0 j1
  · rw [gl 5 (by omega) (by omega)] at j1
    by_cases e : j = i
    · subst e
      obtain ⟨q0, q1, q2, q3, q4, q5, q6, q7, q8⟩ := hQ j j0 j1
      unfold RelR
      rw [up_ne _ _ (by omega), up_eq, up_ne _ _ (by omega), up_ne _ _ (by omega), up_ne _ _ (by omega), up_ne _ _ (by omega), up_ne _ _ (by omega), up_ne _ _ (by omega), g1, gl _ (by omega) (by omega), gl _ (by omega) (by omega), gl _ (by omega) (by omega), gl _ (by omega) (by omega), gl _ (by omega) (by omega), gl _ (by omega) (by omega), gl _ (by omega) (by omega)]
      exact ⟨q0, rfl, q2, q3, q4, q5, q6, q7, q8⟩
    · exact (hQ j j0 j1).of (fun k k0 k1 => up_ne _ _ (by omega)) (fun k k0 k1 => gl _ (by omega) (by omega))
/-! ===== what stays true of the model ===== -/
def InvZ (g : Int → Int) : Prop := ∀ b, g 0 ≤ b → b < 16 → g (6 + 4 * b) = 0
theorem puts_inv {g : Int → Int} (hI : Inv g) (h5 : g 5 < 4) {a b z : Int} (ok : okAdd a b z) : Inv (putsG g a b z) := by
  obtain ⟨hS, hB, hR⟩ := hI
  have s5 := hS.2.2.2.2.2
  have gl : ∀ k, k < 70 → k ≠ 5 → putsG g a b z k = g k := fun k h h5' => by rw [putsG, up_ne _ _ h5', bgn_out _ (by omega), up_ne _ _ (by omega), up_ne _ _ (by omega), up_ne _ _ (by omega)]
  have g5 : putsG g a b z 5 = g 5 + 1 := up_eq _ _ _
  refine ⟨?_, fun j j0 j1 => ?_, fun i i0 i1 => ?_⟩
  · unfold InvS at hS ⊢
    rw [gl 0 (by decide) (by decide), gl 1 (by decide) (by decide), gl 2 (by decide) (by decide), gl 3 (by decide) (by decide), gl 4 (by decide) (by decide), g5]
    omega
  · rw [gl _ (by omega) (by omega), gl _ (by omega) (by omega), gl _ (by omega) (by omega)]; exact hB j j0 j1
  · rw [g5] at i1
    by_cases e : i = g 5
    · subst e
      obtain ⟨w3, w4, w5, -⟩ := bgn_in (up (up (up g (70 + 10 * g 5) a) (70 + 10 * g 5 + 1) b) (70 + 10 * g 5 + 2) z) (g 5)
      have u := fun k (hk : k ≠ 5) => (up_ne (bgnG (up (up (up g (70 + 10 * g 5) a) (70 + 10 * g 5 + 1) b) (70 + 10 * g 5 + 2) z) (g 5)) (k := 5) (g 5 + 1) hk)
      have x0 : putsG g a b z (70 + 10 * g 5) = a := by
        rw [putsG, u _ (by omega), bgn_out _ (by omega), up_ne _ _ (by omega), up_ne _ _ (by omega), up_eq]
      have x1 : putsG g a b z (70 + 10 * g 5 + 1) = b := by
        rw [putsG, u _ (by omega), bgn_out _ (by omega), up_ne _ _ (by omega), up_eq]
      have x2 : putsG g a b z (70 + 10 * g 5 + 2) = z := by
        rw [putsG, u _ (by omega), bgn_out _ (by omega), up_eq]
      have x3 : putsG g a b z (70 + 10 * g 5 + 3) = z := by
        rw [putsG, u _ (by omega), w3, up_eq]
      have x4 : putsG g a b z (70 + 10 * g 5 + 4) = a := by
        rw [putsG, u _ (by omega), w4, up_ne _ _ (by omega), up_ne _ _ (by omega), up_eq]
      have x5 : putsG g a b z (70 + 10 * g 5 + 5) = -1 := by rw [putsG, u _ (by omega), w5]
      unfold rowI
      rw [x0, x1, x2, x3, x4, x5]
      unfold okAdd at ok
      omega
    · have q := fun k (k0 : 0 ≤ k) (k1 : k < 9) => (by rw [putsG, up_ne _ _ (by omega), bgn_out _ (by omega), up_ne _ _ (by omega), up_ne _ _ (by omega), up_ne _ _ (by omega)] : putsG g a b z (70 + 10 * i + k) = g (70 + 10 * i + k))
      have q0 := q 0 (by decide) (by decide)
      rw [Int.add_zero] at q0
      have h := hR i i0 (by omega)
      unfold rowI at h ⊢
      rw [q0, q 1 (by decide) (by decide), q 2 (by decide) (by decide), q 3 (by decide) (by decide), q 4 (by decide) (by decide), q 5 (by decide) (by decide)]
      exact h
theorem drop_inv {g : Int → Int} (hI : Inv g) {i : Int} (i0 : 0 ≤ i) (i1 : i < g 5) : Inv (dropG g i) := by
  obtain ⟨hS, hB, hR⟩ := hI
  have s5 := hS.2.2.2.2.2
  have gl : ∀ k, k < 6 → k ≠ 5 → dropG g i k = g k := fun k h h5' => by rw [dropG, up_ne _ _ h5', own_out _ (by omega), shr_out _ (by omega)]
  have g5 : dropG g i 5 = g 5 - 1 := up_eq _ _ _
  refine ⟨?_, fun j j0 j1 => ?_, fun j j0 j1 => ?_⟩
  · unfold InvS at hS ⊢
    rw [gl 0 (by decide) (by decide), gl 1 (by decide) (by decide), gl 2 (by decide) (by decide), gl 3 (by decide) (by decide), gl 4 (by decide) (by decide), g5]
    omega
  · have g0 : dropG g i (6 + 4 * j) = g (6 + 4 * j) := by rw [dropG, up_ne _ _ (by omega), own_out _ (by omega), shr_out _ (by omega)]
    have gm : dropG g i (6 + 4 * j + 1) = ownV i (g (6 + 4 * j + 1)) := by rw [dropG, up_ne _ _ (by omega), own, if_pos (by omega), shr_out _ (by omega)]
    have h := hB j j0 j1
    rw [g0, gm, gl 4 (by decide) (by decide)]
    refine ⟨h.1, ?_, ?_⟩ <;> (unfold ownV; split <;> (try split) <;> omega)
  · rw [g5] at j1
    have q : ∃ a, 0 ≤ a ∧ a < g 5 ∧ ∀ k, 0 ≤ k → k < 9 → dropG g i (70 + 10 * j + k) = g (70 + 10 * a + k) := by
      by_cases e : i ≤ j
      · exact ⟨j + 1, by omega, by omega, fun k k0 k1 => by rw [dropG, up_ne _ _ (by omega), own_out _ (by omega), shr, if_pos (by omega)]; congr 1; omega⟩
      · exact ⟨j, j0, by omega, fun k k0 k1 => by rw [dropG, up_ne _ _ (by omega), own_out _ (by omega), shr_out _ (by omega)]⟩
    obtain ⟨a, a0, a1, q⟩ := q
    have q0 := q 0 (by decide) (by decide)
    rw [Int.add_zero, Int.add_zero] at q0
    have h := hR a a0 a1
    unfold rowI at h ⊢
    rw [q0, q 1 (by decide) (by decide), q 2 (by decide) (by decide), q 3 (by decide) (by decide), q 4 (by decide) (by decide), q 5 (by decide) (by decide)]
    exact h
theorem stride_inv {g : Int → Int} (hI : Inv g) {i v : Int} (i0 : 0 ≤ i) (i1 : i < g 5) (hv : 0 ≤ v ∧ v ≤ 1023) : Inv (strG g i v) := by
  obtain ⟨hS, hB, hR⟩ := hI
  have gl : ∀ k, k ≠ 70 + 10 * i + 1 → k ≠ 70 + 10 * i + 4 → strG g i v k = g k := fun k h1 h4 => by rw [strG, up_ne _ _ h4, up_ne _ _ h1]
  refine ⟨?_, fun j j0 j1 => ?_, fun j j0 j1 => ?_⟩
  · unfold InvS at hS ⊢
    rw [gl 0 (by omega) (by omega), gl 1 (by omega) (by omega), gl 2 (by omega) (by omega), gl 3 (by omega) (by omega), gl 4 (by omega) (by omega), gl 5 (by omega) (by omega)]
    exact hS
  · rw [gl _ (by omega) (by omega), gl 4 (by omega) (by omega), gl _ (by omega) (by omega)]; exact hB j j0 j1
  · rw [gl 5 (by omega) (by omega)] at j1
    have h := hR j j0 j1
    by_cases e : j = i
    · subst e
      have g1 : strG g j v (70 + 10 * j + 1) = v := by rw [strG, up_ne _ _ (by omega), up_eq]
      have g4 : strG g j v (70 + 10 * j + 4) = if g (70 + 10 * j + 5) < 0 then g (70 + 10 * j) else (g (70 + 10 * j + 5) + v) % 4096 := by rw [strG, up_eq]
      unfold rowI at h ⊢
      rw [g1, g4, gl _ (by omega) (by omega), gl _ (by omega) (by omega), gl _ (by omega) (by omega), gl _ (by omega) (by omega)]
      split <;> omega
    · unfold rowI at h ⊢
      rw [gl _ (by omega) (by omega), gl _ (by omega) (by omega), gl _ (by omega) (by omega), gl _ (by omega) (by omega), gl _ (by omega) (by omega), gl _ (by omega) (by omega)]
      exact h
