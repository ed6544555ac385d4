/-! the reference: blocks are copied -/
theorem ite_iff {c d : Prop} [Decidable c] [Decidable d] (h : c ↔ d) : (if c then (1 : Int) else 0) = if d then 1 else 0 := by
  by_cases hc : c
  · rw [if_pos hc, if_pos (h.mp hc)]
  · rw [if_neg hc, if_neg (fun q => hc (h.mpr q))]
