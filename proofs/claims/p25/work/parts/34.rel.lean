/-! ===== a store's numbers against the model's ===== -/
def v4 (x0 x1 x2 x3 : Int) : Int → Int := fun k => if k = 0 then x0 else if k = 1 then x1 else if k = 2 then x2 else x3
def v8 (x0 x1 x2 x3 x4 x5 x6 x7 : Int) : Int → Int := fun k => if k = 0 then x0 else if k = 1 then x1 else if k = 2 then x2 else if k = 3 then x3 else if k = 4 then x4 else if k = 5 then x5 else if k = 6 then x6 else x7
theorem isSt.ext {ca : Nat → ClassId} {L : List Nat} {M : Mem} {σ : Int → Nat} {c c' : Int → Int} (h : isSt ca L M σ c) (h6 : ∀ k, 0 ≤ k → k < 70 → c' k = c k) (hr : ∀ i k, 0 ≤ i → i < 4 → 0 ≤ k → k < 8 → c' (70 + 10 * i + k) = c (70 + 10 * i + k)) : isSt ca L M σ c' := by
  refine ⟨h.1, ?_, ?_, h.strs, h.bks, fun b b0 b1 => ?_, fun i i0 i1 => ?_⟩
  · rw [h.obj, oStore, oStore, h6 5 (by decide) (by decide), h6 4 (by decide) (by decide)]
  · rw [h.set]; exact cI_ext (fun k k0 k1 => (h6 _ (by omega) (by omega)).symm)
  · rw [h.bank b0 b1, cBank, cBank, h6 _ (by omega) (by omega), h6 _ (by omega) (by omega), h6 _ (by omega) (by omega), h6 _ (by omega) (by omega)]
  · have q := fun k k0 k1 => hr i k i0 i1 k0 k1
    have q0 := q 0 (by decide) (by decide)
    rw [Int.add_zero] at q0
    rw [h.row i0 i1, cRow, cRow, q0, q 1 (by decide) (by decide), q 2 (by decide) (by decide), q 3 (by decide) (by decide), q 4 (by decide) (by decide), q 5 (by decide) (by decide), q 6 (by decide) (by decide), q 7 (by decide) (by decide)]
theorem isSt.toRB {ca : Nat → ClassId} {L : List Nat} {M M1 : Mem} {σ : Int → Nat} {c : Int → Int} (h : isSt ca L M σ c) {i b : Int} (i0 : 0 ≤ i) (i1 : i < 4) (b0 : 0 ≤ b) (b1 : b < 16) {fr fb : Int → Int} (hr : M1 (σ (20 + i)) = oRow fr) (hb : M1 (σ (4 + b)) = oBank fb) (hf : ∀ x, x ≠ σ (20 + i) → x ≠ σ (4 + b) → M1 x = M x) : isSt ca L M1 σ (setB (setR c i fr) b fb) := by
  have h2 : isSt ca L (fun x => if x = σ (20 + i) then M1 x else M x) σ (setR c i fr) := h.toR i0 i1 (by show (if σ (20 + i) = σ (20 + i) then _ else _) = _; rw [if_pos rfl]; exact hr) (fun x hx => if_neg hx)
  exact h2.toB b0 b1 hb (fun x hx => by
    by_cases e : x = σ (20 + i)
    · show _ = if x = σ (20 + i) then _ else _
      rw [if_pos e]
    · show _ = if x = σ (20 + i) then _ else _
      rw [if_neg e]; exact hf x e hx)
def RelB (c g : Int → Int) : Prop := ∀ b, 0 ≤ b → b < 16 → c (6 + 4 * b) = g (6 + 4 * b) ∧ c (6 + 4 * b + 2) = g (6 + 4 * b + 2) ∧ c (6 + 4 * b + 3) = g (6 + 4 * b + 3) ∧ (0 < g (6 + 4 * b) → c (6 + 4 * b + 1) = g (6 + 4 * b + 1)) ∧ (-1 ≤ c (6 + 4 * b + 1) ∧ c (6 + 4 * b + 1) < 4)
def RelR (c g : Int → Int) (q : Int) : Prop := c q = g q ∧ c (q + 1) = g (q + 1) ∧ c (q + 2) = g (q + 2) ∧ c (q + 3) = g (q + 3) ∧ (0 ≤ c (q + 4) ∧ c (q + 4) < 4096) ∧ (0 ≤ g (q + 5) → c (q + 4) = g (q + 5)) ∧ c (q + 5) = g (q + 6) ∧ c (q + 6) = g (q + 7) ∧ c (q + 7) = if g (q + 3) = 0 then g (q + 8) else -6
def RelS (c g : Int → Int) : Prop := c 0 = g 0 ∧ c 1 = g 1 ∧ c 2 = g 2 ∧ c 3 = g 3 ∧ c 4 = g 4 ∧ c 5 = g 5
def Rel (c g : Int → Int) : Prop := RelS c g ∧ RelB c g ∧ ∀ i, 0 ≤ i → i < g 5 → RelR c g (70 + 10 * i)
/-- only what beginning anew reads -/
def RelL (c g : Int → Int) : Prop := (c 0 = g 0 ∧ c 1 = g 1 ∧ c 2 = g 2 ∧ c 3 = g 3 ∧ c 5 = g 5) ∧ ∀ i, 0 ≤ i → i < g 5 → c (70 + 10 * i) = g (70 + 10 * i) ∧ c (70 + 10 * i + 1) = g (70 + 10 * i + 1) ∧ c (70 + 10 * i + 2) = g (70 + 10 * i + 2)
theorem Rel.L {c g : Int → Int} (h : Rel c g) : RelL c g := ⟨⟨h.1.1, h.1.2.1, h.1.2.2.1, h.1.2.2.2.1, h.1.2.2.2.2.2⟩, fun i h0 h1 => by obtain ⟨a, b, d, -⟩ := h.2.2 i h0 h1; exact ⟨a, b, d⟩⟩
theorem bkG_eq {c g : Int → Int} (h0 : c 0 = g 0) (h2 : c 2 = g 2) (a : Int) : bkG c a = bkG g a := by unfold bkG; rw [h0, h2]
theorem rel_next {c g : Int → Int} {i : Int} (h : RelR c g (70 + 10 * i)) (hI : rowI g (70 + 10 * i)) : rwNext (fRow c i) = g (70 + 10 * i + 4) := by
  obtain ⟨e0, e1, e2, e3, e4, e5, -⟩ := h
  obtain ⟨i0, i1, i2, i3, i4, i5⟩ := hI
  show (if c (70 + 10 * i + 3) = c (70 + 10 * i + 2) then c (70 + 10 * i + 0) else (c (70 + 10 * i + 4) + c (70 + 10 * i + 1)) % 4096) = _
  rw [Int.add_zero, e0, e1, e2, e3]
  rcases i5 with h | h
  · rw [if_pos h.1, h.2.2]
  · rw [if_neg (by omega), e5 h.2.1, h.2.2.2]
/-! ===== a request ===== -/
theorem asks_req {g : Int → Int} (hS : InvS g) {i b : Int} (hi : 0 ≤ i) (hb0 : 0 ≤ b) (hb1 : b < 16) : asksG g i (6 + 4 * b + 2) = if b = bkG g (g (70 + 10 * i + 4)) ∧ ¬ g (6 + 4 * bkG g (g (70 + 10 * i + 4))) > g 4 then g (6 + 4 * b + 2) + 1 else g (6 + 4 * b + 2) := by
  have hb := bkG_rng hS (g (70 + 10 * i + 4))
  unfold asksG
  by_cases hc : g (6 + 4 * bkG g (g (70 + 10 * i + 4))) > g 4
  · rw [if_pos hc, if_neg (show ¬ (b = bkG g (g (70 + 10 * i + 4)) ∧ ¬ g (6 + 4 * bkG g (g (70 + 10 * i + 4))) > g 4) from fun h => h.2 hc)]
    simp only [up]
    rw [if_neg (by omega), if_neg (by omega), if_neg (by omega)]
  · rw [if_neg hc]
    simp only [up]
    rw [if_neg (by omega), if_neg (by omega), if_neg (by omega), if_neg (by omega)]
    by_cases he : b = bkG g (g (70 + 10 * i + 4))
    · rw [if_pos (by omega), if_pos ⟨he, hc⟩, ← he]
    · rw [if_neg (by omega), if_neg (by omega), if_neg (by omega), if_neg (fun h => he h.1)]
theorem asks_mad {g : Int → Int} (hS : InvS g) {i b : Int} (hi : 0 ≤ i) (hb0 : 0 ≤ b) (hb1 : b < 16) : asksG g i (6 + 4 * b + 3) = if b = bkG g (g (70 + 10 * i + 4)) ∧ g (6 + 4 * bkG g (g (70 + 10 * i + 4))) > g 4 then g (6 + 4 * b + 3) + 1 else g (6 + 4 * b + 3) := by
  have hb := bkG_rng hS (g (70 + 10 * i + 4))
  unfold asksG
  by_cases hc : g (6 + 4 * bkG g (g (70 + 10 * i + 4))) > g 4
  · rw [if_pos hc]
    simp only [up]
    by_cases he : b = bkG g (g (70 + 10 * i + 4))
    · rw [if_pos (by omega), if_pos ⟨he, hc⟩, ← he]
    · rw [if_neg (by omega), if_neg (by omega), if_neg (by omega), if_neg (fun h => he h.1)]
  · rw [if_neg hc, if_neg (show ¬ (b = bkG g (g (70 + 10 * i + 4)) ∧ g (6 + 4 * bkG g (g (70 + 10 * i + 4))) > g 4) from fun h => hc h.2)]
    simp only [up]
    rw [if_neg (by omega), if_neg (by omega), if_neg (by omega), if_neg (by omega), if_neg (by omega), if_neg (by omega), if_neg (by omega)]
theorem asks_st2 {g : Int → Int} (hS : InvS g) {i : Int} (hi : 0 ≤ i) (hc : g (6 + 4 * bkG g (g (70 + 10 * i + 4))) > g 4) : asksG g i (70 + 10 * i + 6) = g (70 + 10 * i + 6) + 1 ∧ asksG g i (70 + 10 * i + 7) = g (70 + 10 * i + 7) + if g (6 + 4 * bkG g (g (70 + 10 * i + 4)) + 1) = i then 0 else 1 := by
  have hb := bkG_rng hS (g (70 + 10 * i + 4))
  unfold asksG
  rw [if_pos hc]
  simp only [up]
  refine ⟨?_, ?_⟩
  · rw [if_neg (by omega), if_neg (by omega), if_pos trivial]
  · rw [if_neg (by omega), if_pos trivial]
theorem RelR.of {c c' g g' : Int → Int} {q : Int} (h : RelR c g q) (hc : ∀ k, 0 ≤ k → k < 8 → c' (q + k) = c (q + k)) (hg : ∀ k, 0 ≤ k → k < 9 → g' (q + k) = g (q + k)) : RelR c' g' q := by
  have c0 := hc 0 (by decide) (by decide)
  have g0 := hg 0 (by decide) (by decide)
  rw [Int.add_zero] at c0 g0
  unfold RelR
  rw [c0, g0, hc 1 (by decide) (by decide), hc 2 (by decide) (by decide), hc 3 (by decide) (by decide), hc 4 (by decide) (by decide), hc 5 (by decide) (by decide), hc 6 (by decide) (by decide), hc 7 (by decide) (by decide), hg 1 (by decide) (by decide), hg 2 (by decide) (by decide), hg 3 (by decide) (by decide), hg 5 (by decide) (by decide), hg 6 (by decide) (by decide), hg 7 (by decide) (by decide), hg 8 (by decide) (by decide)]
  exact h
theorem setRB_low {c fr fb : Int → Int} {i b k : Int} (hi : 0 ≤ i) (hb : 0 ≤ b) (hk : k < 6) : setB (setR c i fr) b fb k = c k := by rw [setB_out _ _ _ (by omega), setR_out _ _ _ (by omega)]
theorem rel_stall {c g : Int → Int} (hR : Rel c g) (hI : Inv g) {i : Int} (hi : 0 ≤ i) (hi5 : i < g 5) (hl : ¬ g (70 + 10 * i + 3) = 0) {b : Int} (hb : b = bkG g (g (70 + 10 * i + 4))) (hc : g (6 + 4 * b) > g 4) {d : Int} (hd : d = if g (6 + 4 * b + 1) = i then 0 else 1) :
    askR g i = 0 ∧ Rel (setB (setR c i (v8 (c (70 + 10 * i)) (c (70 + 10 * i + 1)) (c (70 + 10 * i + 2)) (c (70 + 10 * i + 3)) (c (70 + 10 * i + 4)) (c (70 + 10 * i + 5) + 1) (c (70 + 10 * i + 6) + d) (c (70 + 10 * i + 7)))) b (v4 (c (6 + 4 * b)) (c (6 + 4 * b + 1)) (c (6 + 4 * b + 2)) (c (6 + 4 * b + 3) + 1))) (askC g i) := by
  obtain ⟨hS, hB, hQ⟩ := hI
  have hk := bkG_rng hS (g (70 + 10 * i + 4))
  rw [← hb] at hk
  obtain ⟨r0, r1, r2, r3, r4, r5⟩ := hQ i hi hi5
  have s5 := hS.2.2.2.2.2
  have hp : g (70 + 10 * i + 3) > 0 := by omega
  have hc2 : g (6 + 4 * bkG g (g (70 + 10 * i + 4))) > g 4 := hb ▸ hc
  rw [askC, askR, if_pos hp, if_pos hp, asksR, if_pos hc2]
  have lo := fun k (h : k < 6) => asks_low hS hi (k := k) h
  refine ⟨rfl, ?_, ?_, ?_⟩
  · obtain ⟨e0, e1, e2, e3, e4, e5⟩ := hR.1
    unfold RelS
    rw [setRB_low hi hk.1 (by decide), setRB_low hi hk.1 (by decide), setRB_low hi hk.1 (by decide), setRB_low hi hk.1 (by decide), setRB_low hi hk.1 (by decide), setRB_low hi hk.1 (by decide), lo _ (by decide), lo _ (by decide), lo _ (by decide), lo _ (by decide), lo _ (by decide), lo _ (by decide)]
    exact hR.1
  · intro j j0 j1
    obtain ⟨b0, b2, b3, b1, b4⟩ := hR.2.1 j j0 j1
    have en : ¬ (j = bkG g (g (70 + 10 * i + 4)) ∧ ¬ g (6 + 4 * bkG g (g (70 + 10 * i + 4))) > g 4) := fun h => h.2 hc2
    rw [asks_free hS hi j0 j1, asks_req hS hi j0 j1, asks_mad hS hi j0 j1, asks_owner hS hi j0 j1, if_neg en, if_neg en, if_neg en]
    by_cases e : j = b
    · subst e
      have z := fun k (k0 : 0 ≤ k) (k1 : k < 4) => setB_in (setR c i (v8 (c (70 + 10 * i)) (c (70 + 10 * i + 1)) (c (70 + 10 * i + 2)) (c (70 + 10 * i + 3)) (c (70 + 10 * i + 4)) (c (70 + 10 * i + 5) + 1) (c (70 + 10 * i + 6) + d) (c (70 + 10 * i + 7)))) j (v4 (c (6 + 4 * j)) (c (6 + 4 * j + 1)) (c (6 + 4 * j + 2)) (c (6 + 4 * j + 3) + 1)) k0 k1
      have z0 := z 0 (by decide) (by decide)
      rw [Int.add_zero] at z0
      rw [z0, z 1 (by decide) (by decide), z 2 (by decide) (by decide), z 3 (by decide) (by decide), if_pos ⟨hb, hc2⟩]
      exact ⟨b0, b2, congrArg (· + 1) b3, b1, b4⟩
    · have z := fun k (k0 : 6 + 4 * j ≤ k) (k1 : k < 6 + 4 * j + 4) => (setB_out (setR c i (v8 (c (70 + 10 * i)) (c (70 + 10 * i + 1)) (c (70 + 10 * i + 2)) (c (70 + 10 * i + 3)) (c (70 + 10 * i + 4)) (c (70 + 10 * i + 5) + 1) (c (70 + 10 * i + 6) + d) (c (70 + 10 * i + 7)))) b (v4 (c (6 + 4 * b)) (c (6 + 4 * b + 1)) (c (6 + 4 * b + 2)) (c (6 + 4 * b + 3) + 1)) (k := k) (by omega)).trans (setR_out _ _ _ (by omega))
      rw [z _ (by omega) (by omega), z _ (by omega) (by omega), z _ (by omega) (by omega), z _ (by omega) (by omega), if_neg (fun h => e (h.1.trans hb.symm))]
      exact ⟨b0, b2, b3, b1, b4⟩
  · intro j j0 j1
    rw [lo 5 (by decide)] at j1
    by_cases e : j = i
    · subst e
      obtain ⟨q0, q1, q2, q3, q4, q5, q6, q7, q8⟩ := hR.2.2 j j0 j1
      have z := fun k (k0 : 0 ≤ k) (k1 : k < 8) => (setB_out (setR c j (v8 (c (70 + 10 * j)) (c (70 + 10 * j + 1)) (c (70 + 10 * j + 2)) (c (70 + 10 * j + 3)) (c (70 + 10 * j + 4)) (c (70 + 10 * j + 5) + 1) (c (70 + 10 * j + 6) + d) (c (70 + 10 * j + 7)))) b (v4 (c (6 + 4 * b)) (c (6 + 4 * b + 1)) (c (6 + 4 * b + 2)) (c (6 + 4 * b + 3) + 1)) (k := 70 + 10 * j + k) (by omega)).trans (setR_in c j _ k0 k1)
      have z0 := z 0 (by decide) (by decide)
      rw [Int.add_zero] at z0
      have a := fun k h0 h1 => asks_stall hS j0 hc2 (k := k) h0 h1
      have a0 := a 0 (by decide) (by decide)
      rw [Int.add_zero] at a0
      obtain ⟨a6, a7⟩ := asks_st2 hS j0 hc2
      unfold RelR
      rw [z0, z 1 (by decide) (by decide), z 2 (by decide) (by decide), z 3 (by decide) (by decide), z 4 (by decide) (by decide), z 5 (by decide) (by decide), z 6 (by decide) (by decide), z 7 (by decide) (by decide), a0, a 1 (by decide) (by decide), a 2 (by decide) (by decide), a 3 (by decide) (by decide), a 5 (by decide) (by decide), a6, a7, a 8 (by decide) (by decide)]
      refine ⟨q0, q1, q2, q3, q4, q5, congrArg (· + 1) q6, ?_, q8⟩
      show c (70 + 10 * j + 6) + d = _
      rw [q7, hd, hb]
    · refine (hR.2.2 j j0 j1).of (fun k k0 k1 => ?_) (fun k k0 k1 => asks_other hS hi j0 e k0 (by omega))
      rw [setB_out _ _ _ (by omega), setR_out _ _ _ (by omega)]
theorem rel_done {c g : Int → Int} (hR : Rel c g) (hI : Inv g) {i : Int} (hi : 0 ≤ i) (hi5 : i < g 5) (hl : ¬ g (70 + 10 * i + 3) = 0) {b : Int} (hb : b = bkG g (g (70 + 10 * i + 4))) (hc : ¬ g (6 + 4 * b) > g 4) :
    askR g i = 1 ∧ Rel (setB (setR c i (rwFin (fRow c i) (g (70 + 10 * i + 4)) (c 4))) b (v4 (c 4 + c 1) i (c (6 + 4 * b + 2) + 1) (c (6 + 4 * b + 3)))) (askC g i) := by
  obtain ⟨hS, hB, hQ⟩ := hI
  have hk := bkG_rng hS (g (70 + 10 * i + 4))
  rw [← hb] at hk
  obtain ⟨r0, r1, r2, r3, r4, r5⟩ := hQ i hi hi5
  have s5 := hS.2.2.2.2.2
  have hp : g (70 + 10 * i + 3) > 0 := by omega
  have hc2 : ¬ g (6 + 4 * bkG g (g (70 + 10 * i + 4))) > g 4 := hb ▸ hc
  rw [askC, askR, if_pos hp, if_pos hp, asksR, if_neg hc2]
  have lo := fun k (h : k < 6) => asks_low hS hi (k := k) h
  obtain ⟨e0, e1, e2, e3, e4, e5⟩ := id hR.1
  refine ⟨rfl, ?_, ?_, ?_⟩
  · unfold RelS
    rw [setRB_low hi hk.1 (by decide), setRB_low hi hk.1 (by decide), setRB_low hi hk.1 (by decide), setRB_low hi hk.1 (by decide), setRB_low hi hk.1 (by decide), setRB_low hi hk.1 (by decide), lo _ (by decide), lo _ (by decide), lo _ (by decide), lo _ (by decide), lo _ (by decide), lo _ (by decide)]
    exact hR.1
  · intro j j0 j1
    obtain ⟨b0, b2, b3, b1, b4⟩ := hR.2.1 j j0 j1
    rw [asks_free hS hi j0 j1, asks_req hS hi j0 j1, asks_mad hS hi j0 j1, asks_owner hS hi j0 j1, if_neg (show ¬ (j = bkG g (g (70 + 10 * i + 4)) ∧ g (6 + 4 * bkG g (g (70 + 10 * i + 4))) > g 4) from fun h => hc2 h.2)]
    by_cases e : j = b
    · subst e
      have z := fun k (k0 : 0 ≤ k) (k1 : k < 4) => setB_in (setR c i (rwFin (fRow c i) (g (70 + 10 * i + 4)) (c 4))) j (v4 (c 4 + c 1) i (c (6 + 4 * j + 2) + 1) (c (6 + 4 * j + 3))) k0 k1
      have z0 := z 0 (by decide) (by decide)
      rw [Int.add_zero] at z0
      rw [z0, z 1 (by decide) (by decide), z 2 (by decide) (by decide), z 3 (by decide) (by decide), if_pos ⟨hb, hc2⟩, if_pos ⟨hb, hc2⟩, if_pos ⟨hb, hc2⟩]
      exact ⟨by show c 4 + c 1 = _; rw [e4, e1], congrArg (· + 1) b2, b3, fun _ => rfl, by show -1 ≤ i; omega, by show i < 4; omega⟩
    · have z := fun k (k0 : 6 + 4 * j ≤ k) (k1 : k < 6 + 4 * j + 4) => (setB_out (setR c i (rwFin (fRow c i) (g (70 + 10 * i + 4)) (c 4))) b (v4 (c 4 + c 1) i (c (6 + 4 * b + 2) + 1) (c (6 + 4 * b + 3))) (k := k) (by omega)).trans (setR_out _ _ _ (by omega))
      have en : ¬ (j = bkG g (g (70 + 10 * i + 4)) ∧ ¬ g (6 + 4 * bkG g (g (70 + 10 * i + 4))) > g 4) := fun h => e (h.1.trans hb.symm)
      rw [z _ (by omega) (by omega), z _ (by omega) (by omega), z _ (by omega) (by omega), z _ (by omega) (by omega), if_neg en, if_neg en, if_neg en]
      exact ⟨b0, b2, b3, b1, b4⟩
  · intro j j0 j1
    rw [lo 5 (by decide)] at j1
    by_cases e : j = i
    · subst e
      obtain ⟨q0, q1, q2, q3, q4, q5, q6, q7, q8⟩ := hR.2.2 j j0 j1
      have z := fun k (k0 : 0 ≤ k) (k1 : k < 8) => (setB_out (setR c j (rwFin (fRow c j) (g (70 + 10 * j + 4)) (c 4))) b (v4 (c 4 + c 1) j (c (6 + 4 * b + 2) + 1) (c (6 + 4 * b + 3))) (k := 70 + 10 * j + k) (by omega)).trans (setR_in c j _ k0 k1)
      have z0 := z 0 (by decide) (by decide)
      rw [Int.add_zero] at z0
      obtain ⟨d0, d1, d2, d3, d4, d5, d6, d7, d8⟩ := asks_done hS j0 hc2
      unfold RelR
      rw [z0, z 1 (by decide) (by decide), z 2 (by decide) (by decide), z 3 (by decide) (by decide), z 4 (by decide) (by decide), z 5 (by decide) (by decide), z 6 (by decide) (by decide), z 7 (by decide) (by decide), d0, d1, d2, d3, d5, d6, d7, d8]
      refine ⟨(congrArg c (Int.add_zero _)).trans q0, q1, q2, congrArg (· - 1) q3, r4, fun _ => rfl, q6, q7, ?_⟩
      show (if c (70 + 10 * j + 3) - 1 = 0 then c 4 else c (70 + 10 * j + 7)) = _
      rw [q3, q8, e4, if_neg hl]
      split <;> rfl
    · refine (hR.2.2 j j0 j1).of (fun k k0 k1 => ?_) (fun k k0 k1 => asks_other hS hi j0 e k0 (by omega))
      rw [setB_out _ _ _ (by omega), setR_out _ _ _ (by omega)]
/-! ===== System.arraycopy from row to row ===== -/
section RowsC
variable {p : Program} {l : Launch} {e : Env} {R : Room} {s : State} {m : MethodId} {args : Array Value} {below : List Frame} {meth : Method} {c : Code} {D : va_G} {ca : Nat → ClassId} {A : Nat → Prop} {nL : Nat} {Q : State → Prop} {cells slots : Nat} {cc : ByteArray} {own : String} {L : List Nat} {M : Mem} {pc n : Nat} {lv : List (Nat × Value)} {st : List Value}
theorem cpy_all {N : Nat} {f g : Int → Int} : va_cpy (trw N f) (trw N g) 0 0 N = trw N f := by
  funext k
  simp only [va_cpy, trw, Nat.zero_le, true_and, Nat.zero_add, Nat.sub_zero]
  by_cases h : k < N
  · simp only [h, if_true]
  · simp only [h, if_false]
theorem g_copyI (X : Fx p s m args meth c D ca A nL cc own) {index a a0 : Nat} {f g : Int → Int} (hlink : Cond.methodLink own index arraycopyName ∈ TB) (ha : a ∈ L) (hM : M a = cI ca 4 g) (ha0 : a0 ∈ L) (hM0 : M a0 = cI ca 4 f) (hR : 1 ≤ R.frames ∧ nativeFrameWords "java/lang/System" "arraycopy" 5 + 11 ≤ R.locals) (d : decode cc pc = .ok (.invokestatic index, 3)) (hn : pc + 3 = n) (kk : ∀ M1 : Mem, M1 a = cI ca 4 f → (∀ b, b ≠ a → M1 b = M b) → G p l e R s m args below meth c D A nL Q cells slots L M1 n lv []) : G p l e R s m args below meth c D A nL Q cells slots L M pc lv [.int (iI 4), .int (iI 0), .ref a, .int (iI 0), .ref a0] := by
  intro H locs ls hP hD hS hl
  subst hn
  obtain ⟨q0, hq0⟩ := pl_at (M := M) ha0
  obtain ⟨q1, hq1⟩ := pl_at (M := M) ha
  have hp := hq1
  rw [hM0] at hq0
  rw [hM] at hq1
  refine va_copyi X.1.1 X.1.2.1 (X.1.2.2.1.trans hl.1.symm) X.1.2.2.2.1 (X.1.2.2.2.2 _ hlink) (X.1.2.2.2.2 _ wn_java_lang_System_arraycopy) (X.1.2.2.2.2 _ wt_java_lang_System_arraycopy) (X.1.2.2.2.2 _ w0_J10) X.2.1 hP hD hS q0 q1 1 1 hq0 hq1 rfl rfl rfl (by decide +kernel) (by decide +kernel) (by decide +kernel) (by decide +kernel) (by decide +kernel) (fun _ _ => rfl) hR.1 (by simpa using hR.2) d (fun H1 locs1 hP1 hD1 hS1 => ?_)
  have e4 : (iI 4).toNatClampNeg = 4 := by decide +kernel
  have e0 : (iI 0).toNatClampNeg = 0 := by decide +kernel
  rw [e4, e0, cpy_all, pl_set hD ha hp] at hP1 hD1
  exact kk _ (va_up_self _ _ _) (fun b hb => va_up_ne _ _ hb) H1 locs1 ls hP1 hD1 hS1 hl
end RowsC
