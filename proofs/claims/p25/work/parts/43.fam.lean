/-! ===== the class's cells: ten stores and eight more ===== -/
def inD (s k : Int) : Prop := 0 ≤ s ∧ 0 ≤ k ∧ ((s < 10 ∧ k < 24) ∨ (s = 10 ∧ k < 8))
def Adr (L : List Nat) (Sg : Int → Int → Nat) : Prop := (∀ s k, inD s k → Sg s k ∈ L) ∧ ∀ s k s' k', inD s k → inD s' k' → Sg s k = Sg s' k' → s = s' ∧ k = k'
theorem Adr.mem {L : List Nat} {Sg : Int → Int → Nat} (h : Adr L Sg) {s k : Int} (i : inD s k) : Sg s k ∈ L := h.1 s k i
theorem Adr.ne {L : List Nat} {Sg : Int → Int → Nat} (h : Adr L Sg) {s k s' k' : Int} (i : inD s k) (j : inD s' k') (hn : s ≠ s' ∨ k ≠ k') : Sg s k ≠ Sg s' k' := fun e => by
  have := h.2 s k s' k' i j e
  omega
def pOk (π : Int → Int) : Prop := (∀ j, 0 ≤ j → j < 6 → 0 ≤ π j ∧ π j < 6) ∧ ∀ i j, 0 ≤ i → i < 6 → 0 ≤ j → j < 6 → π i = π j → i = j
def hsq (Sg : Int → Int → Nat) (π : Int → Int) : Int → Option Nat := fun j => if j < 6 then some (Sg (4 + π j) 0) else none
abbrev oHi (Sg : Int → Int → Nat) (st : Int) : va_E := .inr (1, [.ref (Sg 10 2), .int (iI st)])
def HS (ca : Nat → ClassId) (L : List Nat) (M : Mem) (Sg : Int → Int → Nat) (st : Int) (be : Int → Int) : Prop :=
  ∃ π : Int → Int, pOk π ∧ M (Sg 10 1) = oHi Sg st ∧ M (Sg 10 2) = cR ca 4 6 (hsq Sg π) ∧ ∀ j, 0 ≤ j → j < 6 → ∃ c, isSt ca L M (Sg (4 + π j)) c ∧ (j < st → Rel c (blk (110 * j) be))
theorem Rel.ext {c g g' : Int → Int} (h : Rel c g) (e : ∀ k, 0 ≤ k → k < 110 → g' k = g k) (h5 : g 5 ≤ 4) : Rel c g' := by
  obtain ⟨h1, h2, h3⟩ := h
  have e5 := e 5 (by decide) (by decide)
  refine ⟨?_, fun b b0 b1 => ?_, fun i i0 i1 => ?_⟩
  · unfold RelS
    rw [e 0 (by decide) (by decide), e 1 (by decide) (by decide), e 2 (by decide) (by decide), e 3 (by decide) (by decide), e 4 (by decide) (by decide), e5]
    exact h1
  · rw [e _ (by omega) (by omega), e _ (by omega) (by omega), e _ (by omega) (by omega), e _ (by omega) (by omega)]
    exact h2 b b0 b1
  · rw [e5] at i1
    exact (h3 i i0 i1).of (fun _ _ _ => rfl) (fun k k0 k1 => e _ (by omega) (by omega))
/-- the states move -/
def mvq (Sg : Int → Int → Nat) (π : Int → Int) (y : Int) : Int → Option Nat := fun j => if j < 6 then some (Sg (4 + π (if 0 ≤ j ∧ j < y - 1 then j + 1 else j)) 0) else none
theorem mvq_0 (Sg : Int → Int → Nat) (π : Int → Int) : hsq Sg π = mvq Sg π 1 := funext fun j => by
  unfold hsq mvq
  rw [if_neg (show ¬ (0 ≤ j ∧ j < 1 - 1) by omega)]
theorem mvq_up (Sg : Int → Int → Nat) (π : Int → Int) {y : Int} (h : 1 ≤ y) (h6 : y < 6) : up (mvq Sg π y) (y - 1) (some (Sg (4 + π y) 0)) = mvq Sg π (y + 1) := by
  funext j
  simp only [up, mvq]
  by_cases e : j = y - 1
  · subst e
    rw [if_pos rfl, if_pos (by omega), if_pos (show 0 ≤ y - 1 ∧ y - 1 < y + 1 - 1 by omega), show y - 1 + 1 = y by omega]
  · rw [if_neg e]
    by_cases h1 : 0 ≤ j ∧ j < y - 1
    · rw [if_pos h1, if_pos (show 0 ≤ j ∧ j < y + 1 - 1 by omega)]
    · rw [if_neg h1, if_neg (show ¬ (0 ≤ j ∧ j < y + 1 - 1) by omega)]
def mvP (π : Int → Int) : Int → Int := fun j => if j = 5 then π 0 else π (j + 1)
theorem mvP_ok {π : Int → Int} (h : pOk π) : pOk (mvP π) := by
  refine ⟨fun j j0 j1 => ?_, fun i j i0 i1 j0 j1 e => ?_⟩
  · unfold mvP; split
    · exact h.1 0 (by decide) (by decide)
    · exact h.1 _ (by omega) (by omega)
  · unfold mvP at e
    split at e <;> split at e
    · omega
    · have := h.2 _ _ (by decide) (by decide) (by omega) (by omega) e; omega
    · have := h.2 _ _ (by omega) (by omega) (by decide) (by decide) e; omega
    · have := h.2 _ _ (by omega) (by omega) (by omega) (by omega) e; omega
theorem mv_end {ca : Nat → ClassId} (Sg : Int → Int → Nat) (π : Int → Int) : cR ca 4 6 (up (mvq Sg π 6) 5 (some (Sg (4 + π 0) 0))) = cR ca 4 6 (hsq Sg (mvP π)) := by
  have e : (fun j : Nat => up (mvq Sg π 6) 5 (some (Sg (4 + π 0) 0)) (j : Int)) = fun j : Nat => hsq Sg (mvP π) (j : Int) := by
    funext j
    simp only [up, mvq, hsq, mvP]
    by_cases e : (j : Int) = 5
    · rw [if_pos e, if_pos (by omega), if_pos e]
    · rw [if_neg e, if_neg e]
      by_cases e6 : (j : Int) < 6
      · rw [if_pos e6, if_pos e6, if_pos (show 0 ≤ (j : Int) ∧ (j : Int) < 6 - 1 by omega)]
      · rw [if_neg e6, if_neg e6]
  unfold cR
  rw [e]
theorem rel_shf {c be : Int → Int} {j : Int} (j0 : 0 ≤ j) (j1 : j < 5) (h : Rel c (blk (110 * (j + 1)) be)) (h5 : blk (110 * (j + 1)) be 5 ≤ 4) : Rel c (blk (110 * j) (shf 550 be)) :=
  h.ext (fun k k0 k1 => by unfold blk; rw [shf, if_pos (by omega)]; congr 1; omega) h5
theorem rel_put {c g be : Int → Int} {t : Int} (h : Rel c g) (h5 : g 5 ≤ 4) : Rel c (blk (110 * t) (pbl 110 (110 * t) be g)) :=
  h.ext (fun k k0 k1 => by unfold blk; rw [pbl, if_pos (by omega)]; congr 1; omega) h5
theorem rel_keep {c g be : Int → Int} {t j : Int} (j0 : 0 ≤ j) (hj : j ≠ t) (h : Rel c (blk (110 * j) be)) (h5 : blk (110 * j) be 5 ≤ 4) : Rel c (blk (110 * j) (pbl 110 (110 * t) be g)) :=
  h.ext (fun k k0 k1 => by unfold blk; rw [pbl, if_neg (by omega)]) h5
