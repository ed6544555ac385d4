/-! ===== texts: the class's walk over the characters against the reference's reading ===== -/
def cF (pa : Int → Int) (len i dg nf : Int) (nu : Int → Int) : Int × (Int → Int) × Int := caF pa len (len - i).toNat i dg nf nu
theorem cF_d {pa : Int → Int} {len i dg nf : Int} {nu : Int → Int} (hi : i < len) (h : 48 ≤ pa i ∧ pa i ≤ 57) (t : tdP (nf % 3) dg (tdB dg nf nu) (tdB dg nf nu * 10 + (pa i - 48))) : cF pa len i dg nf nu = cF pa len (i + 1) (dg + 1) nf (up nu nf (tdB dg nf nu * 10 + (pa i - 48))) := by
  unfold cF; rw [show (len - i).toNat = (len - (i + 1)).toNat + 1 by omega, caF_d h t]
theorem cF_n {pa : Int → Int} {len i dg nf : Int} {nu : Int → Int} (hi : i < len) (h : 48 ≤ pa i ∧ pa i ≤ 57) (t : ¬ tdP (nf % 3) dg (tdB dg nf nu) (tdB dg nf nu * 10 + (pa i - 48))) : cF pa len i dg nf nu = (i, nu, nf) := by
  unfold cF; rw [show (len - i).toNat = (len - (i + 1)).toNat + 1 by omega, caF_n h t]
theorem cF_s {pa : Int → Int} {len i dg nf : Int} {nu : Int → Int} (hi : i < len) (h : ¬ (48 ≤ pa i ∧ pa i ≤ 57)) (t : ¬ (dg = 0 ∨ ¬ pa i = tBN (nf % 3))) : cF pa len i dg nf nu = cF pa len (i + 1) 0 (nf + 1) nu := by
  unfold cF; rw [show (len - i).toNat = (len - (i + 1)).toNat + 1 by omega, caF_s h t]
theorem cF_x {pa : Int → Int} {len i dg nf : Int} {nu : Int → Int} (hi : i < len) (h : ¬ (48 ≤ pa i ∧ pa i ≤ 57)) (t : dg = 0 ∨ ¬ pa i = tBN (nf % 3)) : cF pa len i dg nf nu = (i, nu, nf) := by
  unfold cF; rw [show (len - i).toNat = (len - (i + 1)).toNat + 1 by omega, caF_x h t]
theorem cF_e {pa : Int → Int} {len dg nf : Int} {nu : Int → Int} (t : dg = 0 ∨ ¬ nf % 3 = 2) : cF pa len len dg nf nu = (len, nu, nf) := by
  unfold cF; rw [Int.sub_self]; exact caF_e t
theorem cF_f {pa : Int → Int} {len dg nf : Int} {nu : Int → Int} (t : ¬ (dg = 0 ∨ ¬ nf % 3 = 2)) : cF pa len len dg nf nu = (-6, nu, nf + 1) := by
  unfold cF; rw [Int.sub_self]; exact caF_f t
/-- the number at hand takes no more -/
abbrev stuck (pa : Int → Int) (len i v hi : Int) : Prop := ¬ (0 < v ∧ isSg pa len i 48 57 ∧ 10 * v + pa i - 48 ≤ hi)
theorem num_go {pa : Int → Int} {len nf : Int} (hnf : 0 ≤ nf) : ∀ (n : Nat) (i dg v : Int) (nu : Int → Int), len - i ≤ n → 0 ≤ i → i ≤ len → 0 < dg → nu nf = v → 0 ≤ v →
    ∃ dg' nu', 0 < dg' ∧ nu' nf = (nmO pa len (tMN (nf % 3)) n v i).1 ∧ (∀ k, k ≠ nf → nu' k = nu k) ∧ cF pa len i dg nf nu = cF pa len (nmO pa len (tMN (nf % 3)) n v i).2 dg' nf nu' ∧ i ≤ (nmO pa len (tMN (nf % 3)) n v i).2 ∧ (nmO pa len (tMN (nf % 3)) n v i).2 ≤ len ∧ 0 ≤ (nmO pa len (tMN (nf % 3)) n v i).1 ∧ stuck pa len (nmO pa len (tMN (nf % 3)) n v i).2 (nmO pa len (tMN (nf % 3)) n v i).1 (tMN (nf % 3)) := by
  intro n
  induction n with
  | zero =>
    intro i dg v nu hn h0 h1 hd hv hv0
    simp only [nmO]
    exact ⟨dg, nu, hd, hv, fun _ _ => rfl, rfl, Int.le_refl _, h1, hv0, fun h => by have := h.2.1.1; omega⟩
  | succ n ih =>
    intro i dg v nu hn h0 h1 hd hv hv0
    simp only [nmO]
    by_cases c : 0 < v ∧ isSg pa len i 48 57 ∧ 10 * v + pa i - 48 ≤ tMN (nf % 3)
    · rw [if_pos c]
      have hln := tLN_rng (p := nf % 3) ⟨by omega, by omega⟩
      have hb : tdB dg nf nu = v := by unfold tdB; rw [if_neg (by omega), hv]
      obtain ⟨c1, c2, c3⟩ := c
      obtain ⟨dg', nu', a1, a2, a3, a4, a5, a6, a7, a8⟩ := ih (i + 1) (dg + 1) (10 * v + pa i - 48) (up nu nf (v * 10 + (pa i - 48))) (by omega) (by omega) (by have := c2.1; omega) (by omega) (by rw [up_eq]; omega) (by have := c2.2; omega)
      refine ⟨dg', nu', a1, a2, fun k hk => (a3 k hk).trans (up_ne _ _ hk), ?_, by omega, a6, a7, a8⟩
      rw [cF_d c2.1 c2.2 (by rw [hb]; unfold tdP; have := c2.2; omega), hb]
      exact a4
    · rw [if_neg c]
      exact ⟨dg, nu, hd, hv, fun _ _ => rfl, rfl, Int.le_refl _, h1, hv0, c⟩
theorem num_start {pa : Int → Int} {len nf i : Int} {nu : Int → Int} (hnf : 0 ≤ nf) (hlen : len ≤ 60) (h0 : 0 ≤ i) (h1 : i ≤ len) :
    (nmT pa len i (tLN (nf % 3)) → ∃ dg' nu', 0 < dg' ∧ nu' nf = nmV pa len i (tMN (nf % 3)) ∧ (∀ k, k ≠ nf → nu' k = nu k) ∧ cF pa len i 0 nf nu = cF pa len (nmA pa len i (tMN (nf % 3))) dg' nf nu' ∧ i + 1 ≤ nmA pa len i (tMN (nf % 3)) ∧ nmA pa len i (tMN (nf % 3)) ≤ len ∧ 0 ≤ nmV pa len i (tMN (nf % 3)) ∧ stuck pa len (nmA pa len i (tMN (nf % 3))) (nmV pa len i (tMN (nf % 3))) (tMN (nf % 3))) ∧
    (¬ nmT pa len i (tLN (nf % 3)) → cF pa len i 0 nf nu = (i, nu, nf)) := by
  have hln := tLN_rng (p := nf % 3) ⟨by omega, by omega⟩
  have hmn := tMN_rng (p := nf % 3) ⟨by omega, by omega⟩
  have hb : tdB 0 nf nu = 0 := if_pos rfl
  have hT : nmT pa len i (tLN (nf % 3)) ↔ i < len ∧ 48 + tLN (nf % 3) ≤ pa i ∧ pa i ≤ 57 := by
    unfold nmT isSg
    rcases (by omega : tLN (nf % 3) = 0 ∨ tLN (nf % 3) = 1) with h | h <;> rw [h]
    · rw [if_pos rfl]; omega
    · rw [if_neg (by decide)]; omega
  refine ⟨fun h => ?_, fun h => ?_⟩
  · obtain ⟨q1, q2, q3⟩ := hT.mp h
    obtain ⟨dg', nu', a1, a2, a3, a4, a5, a6, a7, a8⟩ := num_go (pa := pa) (len := len) hnf 60 (i + 1) (0 + 1) (pa i - 48) (up nu nf (pa i - 48)) (by omega) (by omega) (by omega) (by decide) (up_eq _ _ _) (by omega)
    refine ⟨dg', nu', a1, a2, fun k hk => (a3 k hk).trans (up_ne _ _ hk), ?_, a5, a6, a7, a8⟩
    rw [cF_d q1 ⟨by omega, q3⟩ (by rw [hb]; unfold tdP; omega), hb, show (0 : Int) * 10 + (pa i - 48) = pa i - 48 by omega]
    exact a4
  · by_cases e : i = len
    · rw [e]; exact cF_e (Or.inl rfl)
    · by_cases d : 48 ≤ pa i ∧ pa i ≤ 57
      · exact cF_n (by omega) d (fun t => h (hT.mpr (by rw [hb] at t; unfold tdP at t; omega)))
      · exact cF_x (by omega) d (Or.inl rfl)
theorem num_sep {pa : Int → Int} {len nf i dg v : Int} {nu : Int → Int} (hnf : 0 ≤ nf) (h1 : i ≤ len) (hd : 0 < dg) (hv : nu nf = v) (hv0 : 0 ≤ v) (hs : stuck pa len i v (tMN (nf % 3))) :
    (isSg pa len i (tBN (nf % 3)) (tBN (nf % 3)) → cF pa len i dg nf nu = cF pa len (i + 1) 0 (nf + 1) nu) ∧
    (¬ isSg pa len i (tBN (nf % 3)) (tBN (nf % 3)) → ((i < len ∨ ¬ nf % 3 = 2) → cF pa len i dg nf nu = (i, nu, nf)) ∧ (i = len → nf % 3 = 2 → cF pa len i dg nf nu = (-6, nu, nf + 1))) := by
  have hp : nf % 3 = 0 ∨ nf % 3 = 1 ∨ nf % 3 = 2 := by omega
  have ht : tBN (nf % 3) = 43 ∨ tBN (nf % 3) = 42 ∨ tBN (nf % 3) = 59 := by rcases hp with h | h | h <;> rw [h] <;> decide
  have hb : tdB dg nf nu = v := by unfold tdB; rw [if_neg (by omega), hv]
  refine ⟨fun h => ?_, fun h => ⟨fun hl => ?_, fun e h2 => ?_⟩⟩
  · exact cF_s h.1 (by have := h.2; omega) (by have := h.2; omega)
  · by_cases e : i = len
    · rw [e]; exact cF_e (Or.inr (by omega))
    · by_cases d : 48 ≤ pa i ∧ pa i ≤ 57
      · exact cF_n (by omega) d (fun t => by rw [hb] at t; unfold tdP at t; exact hs ⟨by omega, ⟨by omega, d.1, d.2⟩, by omega⟩)
      · exact cF_x (by omega) d (Or.inr (fun q => h ⟨by omega, by omega, by omega⟩))
  · rw [e]; exact cF_f (by omega)
/-- a stream -/
theorem str_go {pa : Int → Int} {len t i : Int} {nu rd : Int → Int} (hlen : len ≤ 60) (ht : 0 ≤ t) (h0 : 0 ≤ i) (h1 : i ≤ len) (hE : ∀ k, 0 ≤ k → k < 3 * t → nu k = rd k) :
    (rsT pa len i → ∃ dg' nu', 0 < dg' ∧ cF pa len i 0 (3 * t) nu = cF pa len (rsS pa len (rd, t, i)).2.2 dg' (3 * t + 2) nu' ∧ (rsS pa len (rd, t, i)).2.1 = t + 1 ∧ (∀ k, 0 ≤ k → k < 3 * (t + 1) → nu' k = (rsS pa len (rd, t, i)).1 k) ∧ i ≤ (rsS pa len (rd, t, i)).2.2 ∧ (rsS pa len (rd, t, i)).2.2 ≤ len ∧ 0 ≤ nu' (3 * t + 2) ∧ stuck pa len (rsS pa len (rd, t, i)).2.2 (nu' (3 * t + 2)) 200) ∧
    (¬ rsT pa len i → (cF pa len i 0 (3 * t) nu).1 = (rsS pa len (rd, t, i)).2.2 ∧ 0 ≤ (rsS pa len (rd, t, i)).2.2) := by
  have m0 : 3 * t % 3 = 0 := by omega
  have m1 : (3 * t + 1) % 3 = 1 := by omega
  have m2 : (3 * t + 2) % 3 = 2 := by omega
  obtain ⟨p1, p2⟩ := num_start (pa := pa) (len := len) (nf := 3 * t) (i := i) (nu := nu) (by omega) hlen h0 h1
  have tM0 : tMN 0 = 4095 := rfl
  have tM1 : tMN 1 = 1023 := rfl
  have tM2 : tMN 2 = 200 := rfl
  have tL0 : tLN 0 = 0 := rfl
  have tL1 : tLN 1 = 0 := rfl
  have tL2 : tLN 2 = 1 := rfl
  have tB0 : tBN 0 = 43 := rfl
  have tB1 : tBN 1 = 42 := rfl
  rw [m0, tM0, tL0] at p1
  rw [m0, tL0] at p2
  by_cases c1 : nmT pa len i 0
  · obtain ⟨d1, n1, a1, a2, a3, a4, a5, a6, a7, a8⟩ := p1 c1
    obtain ⟨s1, s2⟩ := num_sep (pa := pa) (len := len) (nf := 3 * t) (dg := d1) (nu := n1) (by omega) a6 a1 a2 a7 (by rw [m0]; exact a8)
    rw [m0, tB0] at s1 s2
    by_cases c2 : isSg pa len (rA1 pa len i) 43 43
    · have e1 := s1 c2
      obtain ⟨p3, p4⟩ := num_start (pa := pa) (len := len) (nf := 3 * t + 1) (i := rA1 pa len i + 1) (nu := n1) (by omega) hlen (by show 0 ≤ nmA pa len i 4095 + 1; omega) (by have := c2.1; omega)
      rw [m1, tM1, tL1] at p3
      rw [m1, tL1] at p4
      by_cases c3 : nmT pa len (rA1 pa len i + 1) 0
      · obtain ⟨d2, n2, b1, b2, b3, b4, b5, b6, b7, b8⟩ := p3 c3
        obtain ⟨s3, s4⟩ := num_sep (pa := pa) (len := len) (nf := 3 * t + 1) (dg := d2) (nu := n2) (by omega) b6 b1 b2 b7 (by rw [m1]; exact b8)
        rw [m1, tB1] at s3 s4
        by_cases c4 : isSg pa len (rA3 pa len i) 42 42
        · have e3 := s3 c4
          rw [show 3 * t + 1 + 1 = 3 * t + 2 by omega] at e3
          obtain ⟨p5, p6⟩ := num_start (pa := pa) (len := len) (nf := 3 * t + 2) (i := rA3 pa len i + 1) (nu := n2) (by omega) hlen (by show 0 ≤ nmA pa len (rA1 pa len i + 1) 1023 + 1; have : rA1 pa len i + 1 + 1 ≤ nmA pa len (rA1 pa len i + 1) 1023 := b5; have : i + 1 ≤ rA1 pa len i := a5; omega) (by have := c4.1; omega)
          rw [m2, tM2, tL2] at p5
          rw [m2, tL2] at p6
          have hall : cF pa len i 0 (3 * t) nu = cF pa len (rA3 pa len i + 1) 0 (3 * t + 2) n2 := by
            rw [a4]; refine e1.trans ?_; rw [b4]; exact e3
          have hpos : i ≤ rA1 pa len i ∧ rA1 pa len i ≤ rA3 pa len i := ⟨by have : i + 1 ≤ rA1 pa len i := a5; omega, by have : rA1 pa len i + 1 + 1 ≤ rA3 pa len i := b5; omega⟩
          by_cases c5 : nmT pa len (rA3 pa len i + 1) 1
          · obtain ⟨d3, n3, g1, g2, g3, g4, g5, g6, g7, g8⟩ := p5 c5
            have hS : rsS pa len (rd, t, i) = (up (up (up rd (3 * t + 0) (nmV pa len i 4095)) (3 * t + 1) (nmV pa len (rA1 pa len i + 1) 1023)) (3 * t + 2) (nmV pa len (rA3 pa len i + 1) 200), t + 1, rA5 pa len i) := by
              unfold rsS; dsimp only
              rw [if_neg (not_not_intro c1), if_neg (not_not_intro c2), if_neg (not_not_intro c3), if_neg (not_not_intro c4), if_neg (not_not_intro c5)]
            rw [hS]
            refine ⟨fun _ => ⟨d3, n3, g1, by rw [hall]; exact g4, rfl, fun k k0 k1 => ?_, by dsimp only; have : rA3 pa len i + 1 + 1 ≤ rA5 pa len i := g5; omega, g6, by rw [g2]; exact g7, by rw [g2]; exact g8⟩, fun h => absurd ⟨c1, c2, c3, c4, c5⟩ h⟩
            dsimp only
            by_cases k2 : k = 3 * t + 2
            · subst k2; rw [up_eq, g2]
            · rw [up_ne _ _ k2, g3 k k2]
              by_cases k3 : k = 3 * t + 1
              · subst k3; rw [up_eq, b2]
              · rw [up_ne _ _ k3, b3 k k3]
                by_cases k4 : k = 3 * t
                · subst k4; rw [show 3 * t + 0 = 3 * t by omega, up_eq, a2]
                · rw [up_ne _ _ (by omega), a3 k k4]; exact hE k k0 (by omega)
          · have hS : (rsS pa len (rd, t, i)).2.2 = rA3 pa len i + 1 := by
              unfold rsS; dsimp only
              rw [if_neg (not_not_intro c1), if_neg (not_not_intro c2), if_neg (not_not_intro c3), if_neg (not_not_intro c4), if_pos c5]
            rw [hS]
            refine ⟨fun h => absurd h.2.2.2.2 c5, fun _ => ⟨by rw [hall, p6 c5], by omega⟩⟩
        · have hS : (rsS pa len (rd, t, i)).2.2 = rA3 pa len i := by
            unfold rsS; dsimp only
            rw [if_neg (not_not_intro c1), if_neg (not_not_intro c2), if_neg (not_not_intro c3), if_pos c4]
          rw [hS]
          refine ⟨fun h => absurd h.2.2.2.1 c4, fun _ => ⟨?_, by have : rA1 pa len i + 1 + 1 ≤ rA3 pa len i := b5; have : i + 1 ≤ rA1 pa len i := a5; omega⟩⟩
          rw [a4]; refine (congrArg Prod.fst e1).trans ?_; rw [b4]; exact congrArg Prod.fst ((s4 c4).1 (Or.inr (by decide)))
      · have hS : (rsS pa len (rd, t, i)).2.2 = rA1 pa len i + 1 := by
          unfold rsS; dsimp only
          rw [if_neg (not_not_intro c1), if_neg (not_not_intro c2), if_pos c3]
        rw [hS]
        refine ⟨fun h => absurd h.2.2.1 c3, fun _ => ⟨?_, by have : i + 1 ≤ rA1 pa len i := a5; omega⟩⟩
        rw [a4]; refine (congrArg Prod.fst e1).trans ?_; rw [p4 c3]
    · have hS : (rsS pa len (rd, t, i)).2.2 = rA1 pa len i := by
        unfold rsS; dsimp only
        rw [if_neg (not_not_intro c1), if_pos c2]
      rw [hS]
      refine ⟨fun h => absurd h.2.1 c2, fun _ => ⟨?_, by have : i + 1 ≤ rA1 pa len i := a5; omega⟩⟩
      rw [a4]; exact congrArg Prod.fst ((s2 c2).1 (Or.inr (by decide)))
  · have hS : (rsS pa len (rd, t, i)).2.2 = i := by
      unfold rsS; dsimp only
      rw [if_pos c1]
    rw [hS]
    exact ⟨fun h => absurd h.1 c1, fun _ => ⟨by rw [p2 c1], h0⟩⟩
/-- how a reading ends -/
def enD (r : Bool × PS) (x : Int × (Int → Int) × Int) : Prop := (r.1 = true → x.1 = -6 ∧ x.2.2 = 3 * r.2.2.1 ∧ ∀ k, 0 ≤ k → k < 3 * r.2.2.1 → x.2.1 k = r.2.1 k) ∧ (r.1 = false → x.1 = r.2.2.2 ∧ 0 ≤ r.2.2.2)
theorem str_end {pa : Int → Int} {len : Int} (hlen : len ≤ 60) : ∀ (n : Nat) (t i dg : Int) (nu rd : Int → Int), len - i ≤ n → 0 ≤ t → 0 ≤ i → i ≤ len → 0 < dg → (∀ k, 0 ≤ k → k < 3 * (t + 1) → nu k = rd k) → 0 ≤ nu (3 * t + 2) → stuck pa len i (nu (3 * t + 2)) 200 → enD (foL pa len n (true, (rd, t + 1, i))) (cF pa len i dg (3 * t + 2) nu) := by
  intro n
  induction n with
  | zero =>
    intro t i dg nu rd hn ht h0 h1 hd hE hv hs
    have m2 : (3 * t + 2) % 3 = 2 := by omega
    obtain ⟨-, s2⟩ := num_sep (pa := pa) (len := len) (nf := 3 * t + 2) (dg := dg) (nu := nu) (by omega) h1 hd rfl hv (by rw [m2]; exact hs)
    have e : i = len := by omega
    simp only [foL]
    rw [((s2 (fun q => by have := q.1; omega)).2 e m2)]
    exact ⟨fun _ => ⟨rfl, by dsimp only; omega, hE⟩, fun h => by have h2 : true = false := h; cases h2⟩
  | succ n ih =>
    intro t i dg nu rd hn ht h0 h1 hd hE hv hs
    have m2 : (3 * t + 2) % 3 = 2 := by omega
    obtain ⟨s1, s2⟩ := num_sep (pa := pa) (len := len) (nf := 3 * t + 2) (dg := dg) (nu := nu) (by omega) h1 hd rfl hv (by rw [m2]; exact hs)
    rw [m2] at s1 s2
    simp only [foL]
    by_cases e : i = len
    · rw [if_neg (fun h => by have := h.2; omega), ((s2 (fun q => by have := q.1; omega)).2 e rfl)]
      exact ⟨fun _ => ⟨rfl, by dsimp only; omega, hE⟩, fun h => by have h2 : true = false := h; cases h2⟩
    · rw [if_pos ⟨trivial, by omega⟩]
      unfold foN
      dsimp only
      by_cases c : isSg pa len i 59 59
      · rw [if_pos c, s1 c, show 3 * t + 2 + 1 = 3 * (t + 1) by omega]
        obtain ⟨g1, g2⟩ := str_go (pa := pa) (len := len) (t := t + 1) (i := i + 1) (nu := nu) (rd := rd) hlen (by omega) (by omega) (by omega) hE
        by_cases r : rsT pa len (i + 1)
        · obtain ⟨d', n', a1, a2, a3, a4, a5, a6, a7, a8⟩ := g1 r
          rw [decide_eq_true r, a2]
          have hx : rsS pa len (rd, t + 1, i + 1) = ((rsS pa len (rd, t + 1, i + 1)).1, t + 1 + 1, (rsS pa len (rd, t + 1, i + 1)).2.2) := by rw [← a3]
          rw [hx]
          exact ih (t + 1) _ d' n' _ (by omega) (by omega) (by omega) a6 a1 a4 a7 a8
        · obtain ⟨a1, a2⟩ := g2 r
          rw [decide_eq_false r, foL_stop (fun h => by have h2 : false = true := h.1; cases h2)]
          exact ⟨fun h => (by have h2 : false = true := h; cases h2), fun _ => ⟨a1, a2⟩⟩
      · rw [if_neg c, foL_stop (fun h => by have h2 : false = true := h.1; cases h2), (s2 c).1 (Or.inl (by omega))]
        exact ⟨fun h => (by have h2 : false = true := h; cases h2), fun _ => ⟨rfl, h0⟩⟩
theorem ca_fo {pa nu : Int → Int} {len : Int} (h0 : 0 ≤ len) (hlen : len ≤ 60) : enD (foP pa len rd0) (caP pa nu len) := by
  have e : caP pa nu len = cF pa len 0 0 (3 * 0) nu := by unfold caP cF; rw [Int.sub_zero]; rfl
  rw [e]
  obtain ⟨g1, g2⟩ := str_go (pa := pa) (len := len) (t := 0) (i := 0) (nu := nu) (rd := rd0) hlen (by decide) (by decide) h0 (fun k k0 k1 => by omega)
  unfold foP
  by_cases r : rsT pa len 0
  · obtain ⟨d', n', a1, a2, a3, a4, a5, a6, a7, a8⟩ := g1 r
    rw [decide_eq_true r, a2]
    have hx : rsS pa len (rd0, 0, 0) = ((rsS pa len (rd0, 0, 0)).1, 0 + 1, (rsS pa len (rd0, 0, 0)).2.2) := by rw [← a3]
    rw [hx]
    exact str_end hlen 60 0 _ d' n' _ (by omega) (by decide) a5 a6 a1 a4 a7 a8
  · obtain ⟨a1, a2⟩ := g2 r
    rw [decide_eq_false r, foL_stop (fun h => by have h2 : false = true := h.1; cases h2)]
    exact ⟨fun h => (by have h2 : false = true := h; cases h2), fun _ => ⟨a1, a2⟩⟩
