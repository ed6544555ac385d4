/-! ===== a stream of the pad: where its five parts end ===== -/
abbrev rA1 (pa : Int → Int) (len a : Int) : Int := nmA pa len a 4095
abbrev rA3 (pa : Int → Int) (len a : Int) : Int := nmA pa len (rA1 pa len a + 1) 1023
abbrev rA5 (pa : Int → Int) (len a : Int) : Int := nmA pa len (rA3 pa len a + 1) 200
abbrev rsT (pa : Int → Int) (len a : Int) : Prop := nmT pa len a 0 ∧ isSg pa len (rA1 pa len a) 43 43 ∧ nmT pa len (rA1 pa len a + 1) 0 ∧ isSg pa len (rA3 pa len a) 42 42 ∧ nmT pa len (rA3 pa len a + 1) 1
def rsS (pa : Int → Int) (len : Int) (s : PS) : PS :=
  if ¬ nmT pa len s.2.2 0 then (up s.1 (3 * s.2.1 + 0) 0, s.2.1, s.2.2)
  else if ¬ isSg pa len (rA1 pa len s.2.2) 43 43 then (up s.1 (3 * s.2.1 + 0) (nmV pa len s.2.2 4095), s.2.1, rA1 pa len s.2.2)
  else if ¬ nmT pa len (rA1 pa len s.2.2 + 1) 0 then (up (up s.1 (3 * s.2.1 + 0) (nmV pa len s.2.2 4095)) (3 * s.2.1 + 1) 0, s.2.1, rA1 pa len s.2.2 + 1)
  else if ¬ isSg pa len (rA3 pa len s.2.2) 42 42 then (up (up s.1 (3 * s.2.1 + 0) (nmV pa len s.2.2 4095)) (3 * s.2.1 + 1) (nmV pa len (rA1 pa len s.2.2 + 1) 1023), s.2.1, rA3 pa len s.2.2)
  else if ¬ nmT pa len (rA3 pa len s.2.2 + 1) 1 then (up (up (up s.1 (3 * s.2.1 + 0) (nmV pa len s.2.2 4095)) (3 * s.2.1 + 1) (nmV pa len (rA1 pa len s.2.2 + 1) 1023)) (3 * s.2.1 + 2) 0, s.2.1, rA3 pa len s.2.2 + 1)
  else (up (up (up s.1 (3 * s.2.1 + 0) (nmV pa len s.2.2 4095)) (3 * s.2.1 + 1) (nmV pa len (rA1 pa len s.2.2 + 1) 1023)) (3 * s.2.1 + 2) (nmV pa len (rA3 pa len s.2.2 + 1) 200), s.2.1 + 1, rA5 pa len s.2.2)
theorem nm_rng {pa : Int → Int} {len a hi lo : Int} (hlen : len ≤ 60) (hh : hi ≤ 4095) (ha : 0 ≤ a) (hT : nmT pa len a lo) : (0 ≤ nmV pa len a hi ∧ nmV pa len a hi ≤ 4095) ∧ a + 1 ≤ nmA pa len a hi ∧ nmA pa len a hi ≤ 60 := by
  have h1 : a < len ∧ 48 ≤ pa a ∧ pa a ≤ 57 := by
    unfold nmT isSg at hT
    split at hT <;> omega
  have := nmO_rng (pa := pa) (len := len) (hi := hi) hlen hh 60 (pa a - 48) (a + 1) (by omega) (by omega) (by omega) (by omega)
  unfold nmV nmA; omega
/-- the whole pad: whether it goes on, and the state -/
def foN (pa : Int → Int) (len : Int) (s : PS) : Bool × PS := if isSg pa len s.2.2 59 59 then (decide (rsT pa len (s.2.2 + 1)), rsS pa len (s.1, s.2.1, s.2.2 + 1)) else (false, s)
def foL (pa : Int → Int) (len : Int) : Nat → Bool × PS → Bool × PS
  | 0, x => x
  | n + 1, x => if x.1 = true ∧ x.2.2.2 < len then foL pa len n (foN pa len x.2) else x
def foP (pa : Int → Int) (len : Int) (rd : Int → Int) : Bool × PS := foL pa len 60 (decide (rsT pa len 0), rsS pa len (rd, 0, 0))
def rd0 : Int → Int := fun _ => 0
def foB (pa : Int → Int) (len : Int) : Int := if (foP pa len rd0).1 = true then -1 else (foP pa len rd0).2.2.2
def foK (pa : Int → Int) (len : Int) : Int := (foP pa len rd0).2.2.1
def foR (pa : Int → Int) (len : Int) : Int → Int := (foP pa len rd0).2.1
/-- states alike but for the row's start -/
def psE (s z : PS) : Prop := s.2.1 = z.2.1 ∧ s.2.2 = z.2.2 ∧ ∀ k, 0 ≤ k → k < 3 * s.2.1 → s.1 k = z.1 k
theorem rsS_E {pa : Int → Int} {len : Int} {s z : PS} (h : psE s z) (h0 : 0 ≤ s.2.1) : psE (rsS pa len s) (rsS pa len z) := by
  obtain ⟨r, t, a⟩ := s
  obtain ⟨r2, t2, a2⟩ := z
  obtain ⟨h1, h2, h3⟩ := h
  dsimp only at h1 h2 h3 h0
  subst h1 h2
  unfold rsS psE
  dsimp only
  split
  · exact ⟨rfl, rfl, fun k k0 k1 => by dsimp only at k1 ⊢; rw [up_ne _ _ (by omega), up_ne _ _ (by omega)]; exact h3 k k0 (by omega)⟩
  · split
    · exact ⟨rfl, rfl, fun k k0 k1 => by dsimp only at k1 ⊢; rw [up_ne _ _ (by omega), up_ne _ _ (by omega)]; exact h3 k k0 (by omega)⟩
    · split
      · exact ⟨rfl, rfl, fun k k0 k1 => by dsimp only at k1 ⊢; rw [up_ne _ _ (by omega), up_ne _ _ (by omega), up_ne _ _ (by omega), up_ne _ _ (by omega)]; exact h3 k k0 (by omega)⟩
      · split
        · exact ⟨rfl, rfl, fun k k0 k1 => by dsimp only at k1 ⊢; rw [up_ne _ _ (by omega), up_ne _ _ (by omega), up_ne _ _ (by omega), up_ne _ _ (by omega)]; exact h3 k k0 (by omega)⟩
        · split
          · exact ⟨rfl, rfl, fun k k0 k1 => by dsimp only at k1 ⊢; rw [up_ne _ _ (by omega), up_ne _ _ (by omega), up_ne _ _ (by omega), up_ne _ _ (by omega), up_ne _ _ (by omega), up_ne _ _ (by omega)]; exact h3 k k0 (by omega)⟩
          · refine ⟨rfl, rfl, fun k k0 k1 => ?_⟩
            dsimp only at k1 ⊢
            by_cases e2 : k = 3 * t + 2
            · subst e2; rw [up_eq, up_eq]
            · rw [up_ne _ _ e2, up_ne _ _ e2]
              by_cases e1 : k = 3 * t + 1
              · subst e1; rw [up_eq, up_eq]
              · rw [up_ne _ _ e1, up_ne _ _ e1]
                by_cases e0 : k = 3 * t + 0
                · subst e0; rw [up_eq, up_eq]
                · rw [up_ne _ _ e0, up_ne _ _ e0]; exact h3 k k0 (by omega)
theorem rsS_rng {pa : Int → Int} {len : Int} (hlen : len ≤ 60) (s : PS) (ha : 0 ≤ s.2.2) (ha2 : s.2.2 ≤ 60) (ht : 0 ≤ s.2.1) : 0 ≤ (rsS pa len s).2.1 ∧ s.2.2 ≤ (rsS pa len s).2.2 ∧ (rsS pa len s).2.2 ≤ 60 ∧ (rsT pa len s.2.2 → (rsS pa len s).2.1 = s.2.1 + 1 ∧ s.2.2 + 5 ≤ (rsS pa len s).2.2) ∧ (¬ rsT pa len s.2.2 → (rsS pa len s).2.1 = s.2.1) := by
  unfold rsS
  by_cases c1 : nmT pa len s.2.2 0
  · have n1 : _ ∧ s.2.2 + 1 ≤ rA1 pa len s.2.2 ∧ rA1 pa len s.2.2 ≤ 60 := nm_rng (hi := 4095) hlen (by decide) ha c1
    rw [if_neg (not_not_intro c1)]
    by_cases c2 : isSg pa len (rA1 pa len s.2.2) 43 43
    · rw [if_neg (not_not_intro c2)]
      by_cases c3 : nmT pa len (rA1 pa len s.2.2 + 1) 0
      · have n3 : _ ∧ rA1 pa len s.2.2 + 1 + 1 ≤ rA3 pa len s.2.2 ∧ rA3 pa len s.2.2 ≤ 60 := nm_rng (hi := 1023) hlen (by decide) (by omega) c3
        rw [if_neg (not_not_intro c3)]
        by_cases c4 : isSg pa len (rA3 pa len s.2.2) 42 42
        · rw [if_neg (not_not_intro c4)]
          by_cases c5 : nmT pa len (rA3 pa len s.2.2 + 1) 1
          · have n5 : _ ∧ rA3 pa len s.2.2 + 1 + 1 ≤ rA5 pa len s.2.2 ∧ rA5 pa len s.2.2 ≤ 60 := nm_rng (hi := 200) hlen (by decide) (by omega) c5
            rw [if_neg (not_not_intro c5)]
            exact ⟨by dsimp only; omega, by dsimp only; omega, by dsimp only; omega, fun _ => ⟨rfl, by dsimp only; omega⟩, fun h => absurd ⟨c1, c2, c3, c4, c5⟩ h⟩
          · rw [if_pos c5]
            exact ⟨ht, by dsimp only; omega, by have := c4.1; dsimp only; omega, fun h => absurd h.2.2.2.2 c5, fun _ => rfl⟩
        · rw [if_pos c4]
          exact ⟨ht, by dsimp only; omega, by dsimp only; omega, fun h => absurd h.2.2.2.1 c4, fun _ => rfl⟩
      · rw [if_pos c3]
        exact ⟨ht, by dsimp only; omega, by have := c2.1; dsimp only; omega, fun h => absurd h.2.2.1 c3, fun _ => rfl⟩
    · rw [if_pos c2]
      exact ⟨ht, by dsimp only; omega, by dsimp only; omega, fun h => absurd h.2.1 c2, fun _ => rfl⟩
  · rw [if_pos c1]
    exact ⟨ht, by dsimp only; omega, ha2, fun h => absurd h.1 c1, fun _ => rfl⟩
theorem foN_E {pa : Int → Int} {len : Int} {s z : PS} (h : psE s z) (ht : 0 ≤ s.2.1) :
    (isSg pa len s.2.2 59 59 → (foN pa len z).1 = decide (rsT pa len (s.2.2 + 1)) ∧ psE (rsS pa len (s.1, s.2.1, s.2.2 + 1)) (foN pa len z).2) ∧ (¬ isSg pa len s.2.2 59 59 → foN pa len z = (false, z)) := by
  obtain ⟨h1, h2, h3⟩ := id h
  unfold foN
  rw [← h2]
  refine ⟨fun q => ?_, fun q => by rw [if_neg q]⟩
  rw [if_pos q]
  exact ⟨rfl, rsS_E (s := (s.1, s.2.1, s.2.2 + 1)) (z := (z.1, z.2.1, s.2.2 + 1)) ⟨h1, rfl, h3⟩ ht⟩
theorem foL_stop {pa : Int → Int} {len : Int} {n : Nat} {x : Bool × PS} (h : ¬ (x.1 = true ∧ x.2.2.2 < len)) : foL pa len n x = x := by
  cases n with
  | zero => rfl
  | succ n => simp only [foL]; rw [if_neg h]
def anFault (S : AS) : Int := if foB S.2.2.2.2.1 S.2.2.2.2.2.1 < 0 then -6 else foB S.2.2.2.2.1 S.2.2.2.2.2.1
def rdS (g rd : Int → Int) : Nat → (Int → Int)
  | 0 => g
  | k + 1 => putsG (rdS g rd k) (rd (3 * (k : Int))) (rd (3 * (k : Int) + 1)) (rd (3 * (k : Int) + 2))
def anRead (S : AS) : Int := if foB S.2.2.2.2.1 S.2.2.2.2.2.1 ≥ 0 then -3 else if S.1 5 + foK S.2.2.2.2.1 S.2.2.2.2.2.1 > 4 then -4 else S.1 5 + foK S.2.2.2.2.1 S.2.2.2.2.2.1
def opRead (S : AS) : AS := if ¬ foB S.2.2.2.2.1 S.2.2.2.2.2.1 ≥ 0 ∧ ¬ S.1 5 + foK S.2.2.2.2.1 S.2.2.2.2.2.1 > 4 then (rdS S.1 (foR S.2.2.2.2.1 S.2.2.2.2.2.1) (foK S.2.2.2.2.1 S.2.2.2.2.2.1).toNat, recB S.2.2.2.2.2.2 S.2.1 S.1, S.2.2.1, S.2.2.2.1, S.2.2.2.2.1, 0, recN S.2.2.2.2.2.2) else S
theorem puts_5 (g : Int → Int) (a b c : Int) : putsG g a b c 5 = g 5 + 1 := up_eq _ _ _
theorem rdS_5 (g rd : Int → Int) : ∀ k : Nat, rdS g rd k 5 = g 5 + k
  | 0 => by simp only [rdS]; omega
  | k + 1 => by simp only [rdS]; rw [puts_5, rdS_5 g rd k]; omega
