/-! ===== the state's bounds from call to call; what calls answer ===== -/
def PA (T : Int) (S : AS) : Prop := WfA S ∧ PI S.1 ∧ S.1 4 ≤ T
theorem PA.up1 {T U : Int} {S : AS} (h : PA T S) (hT : T ≤ U) : PA U S := ⟨h.1, h.2.1, by have := h.2.2; omega⟩
theorem PA.I {T : Int} {S : AS} (h : PA T S) : Inv S.1 := h.1.1.1
theorem PA.S {T : Int} {S : AS} (h : PA T S) : InvS S.1 := h.1.1.1.1
theorem PA.P {T : Int} {S : AS} (h : PA T S) : PI S.1 := h.2.1
section Answers
variable {S : AS}
theorem c_low (S : AS) {w : Int} (h : 0 ≤ w ∧ w ≤ 5) : anCount S w = S.1 w := if_pos h
theorem c_6 (S : AS) : anCount S 6 = wlG S.1 := by rw [anCount, if_neg (by decide), if_pos rfl]
theorem c_79 (S : AS) {w : Int} (h : 7 ≤ w ∧ w ≤ 9) : anCount S w = ofG S.1 w := by rw [anCount, if_neg (by omega), if_neg (by omega), if_pos h]
theorem c_10 (S : AS) : anCount S 10 = bbG S.1 := by rw [anCount, if_neg (by decide), if_neg (by decide), if_neg (by decide), if_pos rfl]
theorem c_11 (S : AS) : anCount S 11 = tGP (S.1 0) := by rw [anCount, if_neg (by decide), if_neg (by decide), if_neg (by decide), if_neg (by decide), if_pos rfl]
theorem s_no (S : AS) {i w : Int} (h : ¬ (0 ≤ i ∧ i < S.1 5)) : anStream S i w = -1 := if_neg (fun q => h (by unfold isStr at q; omega))
theorem s_low (S : AS) {i w : Int} (h : 0 ≤ i ∧ i < S.1 5) (hw : 0 ≤ w ∧ w ≤ 3) : anStream S i w = S.1 (70 + 10 * i + w) := by
  rw [anStream, if_pos (by unfold isStr; omega), if_pos hw]
theorem s_4 (S : AS) {i : Int} (h : 0 ≤ i ∧ i < S.1 5) : anStream S i 4 = if S.1 (70 + 10 * i + 3) = 0 then -6 else S.1 (70 + 10 * i + 4) := by
  rw [anStream, if_pos (by unfold isStr; omega), if_neg (by decide), if_pos rfl]
theorem s_5 (S : AS) {i : Int} (h : 0 ≤ i ∧ i < S.1 5) : anStream S i 5 = S.1 (70 + 10 * i + 6) := by
  rw [anStream, if_pos (by unfold isStr; omega), if_neg (by decide), if_neg (by decide), if_pos (by decide), show 70 + 10 * i + 5 + 1 = 70 + 10 * i + 6 by omega]
theorem s_6 (S : AS) {i : Int} (h : 0 ≤ i ∧ i < S.1 5) : anStream S i 6 = S.1 (70 + 10 * i + 7) := by
  rw [anStream, if_pos (by unfold isStr; omega), if_neg (by decide), if_neg (by decide), if_pos (by decide), show 70 + 10 * i + 6 + 1 = 70 + 10 * i + 7 by omega]
theorem s_7 (S : AS) {i : Int} (h : 0 ≤ i ∧ i < S.1 5) : anStream S i 7 = if S.1 (70 + 10 * i + 3) = 0 then S.1 (70 + 10 * i + 8) else -6 := by
  rw [anStream, if_pos (by unfold isStr; omega), if_neg (by decide), if_neg (by decide), if_neg (by decide), if_pos rfl]
theorem s_8 (S : AS) {i : Int} (h : 0 ≤ i ∧ i < S.1 5) : anStream S i 8 = (mtV S.1 i).toInt := by
  rw [anStream, if_pos (by unfold isStr; omega), if_neg (by decide), if_neg (by decide), if_neg (by decide), if_neg (by decide), if_pos rfl]
theorem b_no (S : AS) {b w : Int} (h : ¬ (0 ≤ b ∧ b < S.1 0)) : anBank S b w = -1 := if_neg (by omega)
theorem b_0 (S : AS) {b : Int} (h : 0 ≤ b ∧ b < S.1 0) : anBank S b 0 = bsyG S.1 b := by rw [anBank, if_pos (by omega), if_pos rfl]
theorem b_1 (S : AS) {b : Int} (h : 0 ≤ b ∧ b < S.1 0) : anBank S b 1 = S.1 (6 + 4 * b + 2) := by rw [anBank, if_pos (by omega), if_neg (by decide), if_pos rfl]
theorem b_2 (S : AS) {b : Int} (h : 0 ≤ b ∧ b < S.1 0) : anBank S b 2 = S.1 (6 + 4 * b + 3) := by rw [anBank, if_pos (by omega), if_neg (by decide), if_neg (by decide), if_pos rfl]
theorem b_3 (S : AS) {b : Int} (h : 0 ≤ b ∧ b < S.1 0) : anBank S b 3 = wiG S.1 b := by rw [anBank, if_pos (by omega), if_neg (by decide), if_neg (by decide), if_neg (by decide), if_pos rfl]
end Answers
/-- all that areSums asks of a stream -/
theorem sums_row {T : Int} {S : AS} (h : PA T S) {i : Int} (i0 : 0 ≤ i) (i1 : i < S.1 5) :
    (0 ≤ anStream S i 3 ∧ anStream S i 3 ≤ anStream S i 2 ∧ anStream S i 2 ≤ 200) ∧ (anStream S i 3 = 0 ↔ anStream S i 4 = -6) ∧ R32 (anStream S i 4) ∧ (anStream S i 3 = 0 ↔ 0 ≤ anStream S i 7) ∧ (-6 ≤ anStream S i 7 ∧ anStream S i 7 < S.1 4) ∧
    (0 ≤ anStream S i 6 ∧ anStream S i 6 ≤ anStream S i 5) ∧ (1 ≤ anStream S i 8 ∧ anStream S i 8 ≤ if S.1 2 = 2 then tGP (S.1 0) else S.1 0) ∧ anStream S i 5 + anStream S i 2 - anStream S i 3 ≤ S.1 4 := by
  have hi : 0 ≤ i ∧ i < S.1 5 := ⟨i0, i1⟩
  obtain ⟨-, -, r2, r3, r4, -⟩ := h.I.2.2 i i0 i1
  obtain ⟨q1, q2, q3⟩ := h.P.1 i i0 i1
  have s4 := h.S.2.2.2.2.1
  rw [s_low S hi (w := 3) (by decide), s_low S hi (w := 2) (by decide), s_4 S hi, s_5 S hi, s_6 S hi, s_7 S hi, s_8 S hi]
  refine ⟨by omega, ?_, ?_, ?_, ?_, q1, met_rng h.S r2.1, q2⟩
  · split <;> omega
  · unfold R32; split <;> omega
  · split
    · have := q3 (by assumption); omega
    · omega
  · split
    · have := q3 (by assumption); omega
    · omega
/-- all that areSums asks of a bank -/
theorem sums_bank {T : Int} {S : AS} (h : PA T S) {b : Int} (b0 : 0 ≤ b) (b1 : b < S.1 0) :
    (0 ≤ anBank S b 0 ∧ anBank S b 0 < S.1 1) ∧ (0 ≤ anBank S b 1 ∧ anBank S b 1 ≤ 4000000) ∧ (0 ≤ anBank S b 2 ∧ anBank S b 2 ≤ 4000000) ∧ (0 ≤ anBank S b 3 ∧ anBank S b 3 ≤ 800) ∧ (¬ S.1 2 < 2 → ¬ b < tGP (S.1 0) → anBank S b 1 = 0 ∧ anBank S b 3 = 0) := by
  have hb : 0 ≤ b ∧ b < S.1 0 := ⟨b0, b1⟩
  have s0 := h.S.1
  have s1 := h.S.2.1
  have s2 := h.S.2.2.1
  have s4 := h.S.2.2.2.2.1
  obtain ⟨q0, q2, q3, q4⟩ := h.P.2.1 b b0 (by omega)
  have w := wiG_rng h.I b
  rw [b_0 S hb, b_1 S hb, b_2 S hb, b_3 S hb]
  refine ⟨?_, by omega, by omega, w, fun h2 hp => ⟨q4 (by omega) (by omega), wiG_none h.S (by omega) (by omega)⟩⟩
  unfold bsyG
  split <;> omega
/-- the sums at their end -/
theorem sums_end {T : Int} {S : AS} (h : PA T S) : wbS S.1 (S.1 0).toNat = wlG S.1 ∧ ofG S.1 7 ≤ rqS S.1 (S.1 0).toNat ∧ ofG S.1 8 ≤ mdS S.1 (S.1 0).toNat := ⟨wb_all h.I, h.P.2.2.1, h.P.2.2.2⟩
theorem bb_zero {g : Int → Int} : ∀ k : Nat, k ≤ 16 → bbS (bgaG g) k = 0
  | 0, _ => rfl
  | k + 1, h => by
    simp only [bbS]
    rw [bb_zero k (by omega), bsyG, bga_bank g (by omega) (by omega), bga_cyc]
    decide
