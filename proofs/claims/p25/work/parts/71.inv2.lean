/-! ===== beginning anew, adding, dropping, another stride: the bounds stay ===== -/
theorem bga_ofS {g : Int → Int} : ∀ k : Nat, (k : Int) ≤ g 5 → ofS (bgaG g) 7 k = 0 ∧ ofS (bgaG g) 8 k = 0 ∧ ofS (bgaG g) 9 k = 0
  | 0, _ => ⟨rfl, rfl, rfl⟩
  | k + 1, h => by
    obtain ⟨a, b, c⟩ := bga_ofS (g := g) k (by omega)
    obtain ⟨r0, r1, r2, r⟩ := bga_row g (j := k) (by omega)
    obtain ⟨r3, r4, r5, r6, r7, r8⟩ := r (by omega)
    simp only [ofS]
    rw [a, b, c, ofV7, ofV8, ofV9, r2, r3, r6, r7]
    omega
theorem bga_sums {g : Int → Int} : ∀ k : Nat, k ≤ 16 → rqS (bgaG g) k = 0 ∧ mdS (bgaG g) k = 0
  | 0, _ => ⟨rfl, rfl⟩
  | k + 1, h => by
    obtain ⟨a, b⟩ := bga_sums (g := g) k (by omega)
    simp only [rqS, mdS]
    rw [a, b, bga_bank g (by omega) (by omega), bga_bank g (by omega) (by omega)]
    exact ⟨rfl, rfl⟩
theorem bga_of {g : Int → Int} (hS : InvS g) : ofG (bgaG g) 7 = 0 ∧ ofG (bgaG g) 8 = 0 ∧ ofG (bgaG g) 9 = 0 := by
  have s5 := hS.2.2.2.2.2
  unfold ofG
  rw [bga_low (by decide) (by decide)]
  exact bga_ofS _ (by omega)
theorem bga_PI {g : Int → Int} (hS : InvS g) (hL : InvL g) : PI (bgaG g) := by
  obtain ⟨s0, s1, s2, s3, s4, s5⟩ := id hS
  have l := fun (k : Int) (h : k < 6) (h4 : k ≠ 4) => bga_low (g := g) h h4
  refine ⟨fun i i0 i1 => ?_, fun b b0 b1 => ?_, ?_⟩
  · rw [l 5 (by decide) (by decide)] at i1
    obtain ⟨r0, r1, r2, r⟩ := bga_row g i0
    obtain ⟨r3, r4, r5, r6, r7, r8⟩ := r i1
    have := hL i i0 i1
    unfold PRw
    rw [r2, r3, r6, r7, r8, bga_cyc]
    omega
  · unfold PBk
    rw [l 0 (by decide) (by decide), l 1 (by decide) (by decide), l 2 (by decide) (by decide), bga_cyc, bga_bank g (by omega) (by omega), bga_bank g (by omega) (by omega), bga_bank g (by omega) (by omega)]
    exact ⟨by omega, by omega, by omega, fun _ _ => rfl⟩
  · obtain ⟨a, b, c⟩ := bga_of hS
    unfold PSm
    rw [a, b, (bga_sums _ (by rw [l 0 (by decide) (by decide)]; omega)).1, (bga_sums _ (by rw [l 0 (by decide) (by decide)]; omega)).2]
    exact ⟨Int.le_refl 0, Int.le_refl 0⟩
theorem puts_at {g : Int → Int} (h5 : 0 ≤ g 5 ∧ g 5 < 4) (a b z : Int) :
    (∀ k, k < 70 → k ≠ 5 → putsG g a b z k = g k) ∧ putsG g a b z 5 = g 5 + 1 ∧ (∀ i, 0 ≤ i → i < g 5 → ∀ k, 0 ≤ k → k < 10 → putsG g a b z (70 + 10 * i + k) = g (70 + 10 * i + k)) ∧
    putsG g a b z (70 + 10 * g 5) = a ∧ putsG g a b z (70 + 10 * g 5 + 1) = b ∧ putsG g a b z (70 + 10 * g 5 + 2) = z ∧ putsG g a b z (70 + 10 * g 5 + 3) = z ∧ putsG g a b z (70 + 10 * g 5 + 4) = a ∧ putsG g a b z (70 + 10 * g 5 + 5) = -1 ∧ putsG g a b z (70 + 10 * g 5 + 6) = 0 ∧ putsG g a b z (70 + 10 * g 5 + 7) = 0 ∧ putsG g a b z (70 + 10 * g 5 + 8) = -1 := by
  obtain ⟨w3, w4, w5, w6, w7, w8⟩ := bgn_in (up (up (up g (70 + 10 * g 5) a) (70 + 10 * g 5 + 1) b) (70 + 10 * g 5 + 2) z) (g 5)
  have u := fun k (hk : k ≠ 5) => (up_ne (bgnG (up (up (up g (70 + 10 * g 5) a) (70 + 10 * g 5 + 1) b) (70 + 10 * g 5 + 2) z) (g 5)) (k := 5) (g 5 + 1) hk)
  refine ⟨fun k h h5' => ?_, up_eq _ _ _, fun i i0 i1 k k0 k1 => ?_, ?_, ?_, ?_, ?_, ?_, ?_, ?_, ?_, ?_⟩
  · rw [putsG, up_ne _ _ h5', bgn_out _ (by omega), up_ne _ _ (by omega), up_ne _ _ (by omega), up_ne _ _ (by omega)]
  · rw [putsG, up_ne _ _ (by omega), bgn_out _ (by omega), up_ne _ _ (by omega), up_ne _ _ (by omega), up_ne _ _ (by omega)]
  · rw [putsG, u _ (by omega), bgn_out _ (by omega), up_ne _ _ (by omega), up_ne _ _ (by omega), up_eq]
  · rw [putsG, u _ (by omega), bgn_out _ (by omega), up_ne _ _ (by omega), up_eq]
  · rw [putsG, u _ (by omega), bgn_out _ (by omega), up_eq]
  · rw [putsG, u _ (by omega), w3, up_eq]
  · rw [putsG, u _ (by omega), w4, up_ne _ _ (by omega), up_ne _ _ (by omega), up_eq]
  · rw [putsG, u _ (by omega), w5]
  · rw [putsG, u _ (by omega), w6]
  · rw [putsG, u _ (by omega), w7]
  · rw [putsG, u _ (by omega), w8]
theorem puts_PI {g : Int → Int} (hI : Inv g) (hP : PI g) (h5 : g 5 < 4) {a b z : Int} (ok : okAdd a b z) : PI (putsG g a b z) := by
  obtain ⟨s0, s1, s2, s3, s4, s5⟩ := id hI.1
  obtain ⟨pl, p5, pr, x0, x1, x2, x3, x4, x5, x6, x7, x8⟩ := puts_at (g := g) ⟨s5.1, h5⟩ a b z
  have e4 := pl 4 (by decide) (by decide)
  refine ⟨fun i i0 i1 => ?_, fun j j0 j1 => ?_, ?_⟩
  · rw [e4]
    by_cases e : i = g 5
    · subst e
      unfold PRw
      unfold okAdd at ok
      rw [x2, x3, x6, x7, x8]
      omega
    · exact (hP.1 i i0 (by omega)).of (fun k k0 k1 => pr i i0 (by omega) k (by omega) (by omega))
  · rw [e4]
    exact (hP.2.1 j j0 j1).of (pl 0 (by decide) (by decide)) (pl 1 (by decide) (by decide)) (pl 2 (by decide) (by decide)) (pl _ (by omega) (by omega)) (pl _ (by omega) (by omega)) (pl _ (by omega) (by omega))
  · obtain ⟨q1, q2⟩ := hP.2.2
    unfold PSm ofG at *
    have en : (g 5 + 1).toNat = (g 5).toNat + 1 := by omega
    have ec : (((g 5).toNat : Nat) : Int) = g 5 := by omega
    rw [p5, pl 0 (by decide) (by decide), rqS_ext _ (fun q q0 q1 => pl _ (by omega) (by omega)), mdS_ext _ (fun q q0 q1 => pl _ (by omega) (by omega)), en]
    simp only [ofS]
    rw [ofS_ext _ (fun i i0 i1 m m0 m1 => pr i i0 (by omega) m (by omega) (by omega)), ofS_ext _ (fun i i0 i1 m m0 m1 => pr i i0 (by omega) m (by omega) (by omega)), ec, ofV7, ofV8, x2, x3, x6]
    exact ⟨by omega, by omega⟩
theorem drop_at {g : Int → Int} (h5 : g 5 ≤ 4) {i : Int} (i0 : 0 ≤ i) (i1 : i < g 5) :
    (∀ k, k < 70 → k ≠ 5 → (k - 7) % 4 ≠ 0 ∨ k < 6 → dropG g i k = g k) ∧ dropG g i 5 = g 5 - 1 ∧
    (∀ j, 0 ≤ j → j < i → ∀ k, 0 ≤ k → k < 10 → dropG g i (70 + 10 * j + k) = g (70 + 10 * j + k)) ∧ (∀ j, i ≤ j → j < g 5 - 1 → ∀ k, 0 ≤ k → k < 10 → dropG g i (70 + 10 * j + k) = g (70 + 10 * (j + 1) + k)) := by
  refine ⟨fun k h h5' hk => ?_, up_eq _ _ _, fun j j0 j1 k k0 k1 => ?_, fun j j0 j1 k k0 k1 => ?_⟩
  · rw [dropG, up_ne _ _ h5', own_out _ (by omega), shr_out _ (by omega)]
  · rw [dropG, up_ne _ _ (by omega), own_out _ (by omega), shr_out _ (by omega)]
  · rw [dropG, up_ne _ _ (by omega), own_out _ (by omega), shr, if_pos (by omega)]; congr 1; omega
theorem drop_ofS {g : Int → Int} (h5 : g 5 ≤ 4) {i : Int} (i0 : 0 ≤ i) (i1 : i < g 5) {w : Int} : ∀ k : Nat, (k : Int) ≤ g 5 - 1 → ofS (dropG g i) w k = if k ≤ i then ofS g w k else ofS g w (k + 1) - ofV g w (70 + 10 * i)
  | 0, _ => by rw [if_pos (by omega)]; rfl
  | k + 1, h => by
    obtain ⟨d1, d2, d3, d4⟩ := drop_at h5 i0 i1
    have v : ∀ {x y : Int}, (∀ m, 0 ≤ m → m < 10 → dropG g i (x + m) = g (y + m)) → ofV (dropG g i) w x = ofV g w y := fun {x y} e => by
      rw [ofV, ofV, e 2 (by decide) (by decide), e 3 (by decide) (by decide), e 6 (by decide) (by decide), e 7 (by decide) (by decide)]
    rw [ofS, drop_ofS h5 i0 i1 k (by omega)]
    by_cases h1 : (k : Int) < i
    · rw [if_pos (by omega), if_pos (by omega), v (d3 k (by omega) h1)]; rfl
    · rw [v (d4 k (by omega) (by omega))]
      have e2 : ofS g w (k + 1 + 1) = ofS g w (k + 1) + ofV g w (70 + 10 * ((k : Int) + 1)) := rfl
      have e1 : ofS g w (k + 1) = ofS g w k + ofV g w (70 + 10 * (k : Int)) := rfl
      rw [if_neg (show ¬ ((k + 1 : Nat) : Int) ≤ i by omega)]
      by_cases h2 : (k : Int) = i
      · rw [if_pos (by omega), e2, e1, h2]; omega
      · rw [if_neg (by omega), e2]; omega
theorem drop_of {g : Int → Int} (hI : Inv g) {i : Int} (i0 : 0 ≤ i) (i1 : i < g 5) (w : Int) : ofG (dropG g i) w = ofG g w - ofV g w (70 + 10 * i) := by
  have s5 := hI.1.2.2.2.2.2
  unfold ofG
  rw [(drop_at s5.2 i0 i1).2.1, drop_ofS s5.2 i0 i1 _ (by omega)]
  have e : (g 5).toNat = (g 5 - 1).toNat + 1 := by omega
  by_cases h : (((g 5 - 1).toNat : Nat) : Int) ≤ i
  · have hi : i = (((g 5 - 1).toNat : Nat) : Int) := by omega
    rw [if_pos h, e]
    simp only [ofS]
    rw [← hi]; omega
  · rw [if_neg h, e]
theorem drop_PI {g : Int → Int} (hI : Inv g) (hP : PI g) {i : Int} (i0 : 0 ≤ i) (i1 : i < g 5) : PI (dropG g i) := by
  obtain ⟨s0, s1, s2, s3, s4, s5⟩ := id hI.1
  obtain ⟨d1, d2, d3, d4⟩ := drop_at s5.2 i0 i1
  have e4 := d1 4 (by decide) (by decide) (Or.inr (by decide))
  refine ⟨fun j j0 j1 => ?_, fun j j0 j1 => ?_, ?_⟩
  · rw [e4]
    rw [d2] at j1
    by_cases e : j < i
    · exact (hP.1 j j0 (by omega)).of (fun k k0 k1 => d3 j j0 e k (by omega) (by omega))
    · have h := hP.1 (j + 1) (by omega) (by omega)
      have q := fun k k0 k1 => d4 j (by omega) j1 k k0 k1
      unfold PRw at h ⊢
      rw [q 7 (by decide) (by decide), q 6 (by decide) (by decide), q 2 (by decide) (by decide), q 3 (by decide) (by decide), q 8 (by decide) (by decide)]
      exact h
  · rw [e4]
    exact (hP.2.1 j j0 j1).of (d1 0 (by decide) (by decide) (Or.inr (by decide))) (d1 1 (by decide) (by decide) (Or.inr (by decide))) (d1 2 (by decide) (by decide) (Or.inr (by decide))) (d1 _ (by omega) (by omega) (Or.inl (by omega))) (d1 _ (by omega) (by omega) (Or.inl (by omega))) (d1 _ (by omega) (by omega) (Or.inl (by omega)))
  · obtain ⟨q1, q2⟩ := hP.2.2
    have r := hP.1 i i0 i1
    obtain ⟨-, -, r2, r3, -⟩ := hI.2.2 i i0 i1
    unfold PRw at r
    have o7 := drop_of hI i0 i1 7
    have o8 := drop_of hI i0 i1 8
    rw [ofV7] at o7
    rw [ofV8] at o8
    unfold PSm
    rw [o7, o8, d1 0 (by decide) (by decide) (Or.inr (by decide)), rqS_ext _ (fun q q0 q1 => d1 _ (by omega) (by omega) (Or.inl (by omega))), mdS_ext _ (fun q q0 q1 => d1 _ (by omega) (by omega) (Or.inl (by omega)))]
    exact ⟨by omega, by omega⟩
theorem str_at {g : Int → Int} {i : Int} (i0 : 0 ≤ i) (v : Int) : (∀ k, k ≠ 70 + 10 * i + 1 → k ≠ 70 + 10 * i + 4 → strG g i v k = g k) ∧ strG g i v (70 + 10 * i + 1) = v ∧ strG g i v (70 + 10 * i + 4) = if g (70 + 10 * i + 5) < 0 then g (70 + 10 * i) else (g (70 + 10 * i + 5) + v) % 4096 :=
  ⟨fun k h1 h4 => by rw [strG, up_ne _ _ h4, up_ne _ _ h1], by rw [strG, up_ne _ _ (by omega), up_eq], by rw [strG, up_eq]⟩
theorem str_PI {g : Int → Int} (hI : Inv g) (hP : PI g) {i v : Int} (i0 : 0 ≤ i) : PI (strG g i v) := by
  obtain ⟨s0, s1, s2, s3, s4, s5⟩ := id hI.1
  have u := (str_at (g := g) i0 v).1
  have e4 := u 4 (by omega) (by omega)
  have e5 := u 5 (by omega) (by omega)
  have e0 := u 0 (by omega) (by omega)
  refine ⟨fun j j0 j1 => ?_, fun j j0 j1 => ?_, ?_⟩
  · rw [e4]
    rw [e5] at j1
    have h := hP.1 j j0 j1
    unfold PRw at h ⊢
    rw [u _ (by omega) (by omega), u _ (by omega) (by omega), u _ (by omega) (by omega), u _ (by omega) (by omega), u _ (by omega) (by omega)]
    exact h
  · rw [e4]
    exact (hP.2.1 j j0 j1).of e0 (u 1 (by omega) (by omega)) (u 2 (by omega) (by omega)) (u _ (by omega) (by omega)) (u _ (by omega) (by omega)) (u _ (by omega) (by omega))
  · have o : ∀ w k, w = 7 ∨ w = 8 → ofS (strG g i v) w k = ofS g w k := fun w k hw => by
      induction k with
      | zero => rfl
      | succ k ih =>
        simp only [ofS]
        rw [ih, ofV, ofV, u _ (by omega) (by omega), u _ (by omega) (by omega), u _ (by omega) (by omega), u _ (by omega) (by omega)]
    have q := hP.2.2
    unfold PSm ofG at q ⊢
    rw [e0, e5, o 7 _ (Or.inl rfl), o 8 _ (Or.inr rfl), rqS_ext _ (fun q q0 q1 => u _ (by omega) (by omega)), mdS_ext _ (fun q q0 q1 => u _ (by omega) (by omega))]
    exact q
theorem set_PI {g : Int → Int} (hI : Inv g) {k v : Int} (hk : isSet k v) : PI (bgaG (up g k v)) := by
  obtain ⟨a, b⟩ := set_inv hI hk
  exact bga_PI a b
