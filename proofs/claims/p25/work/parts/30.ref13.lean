/-! the reference: streams of the pad, its fault, read -/
theorem ite_dec {c : Prop} [Decidable c] : (if c then (1 : Int) else 0) = if decide c = true then 1 else 0 := by
  by_cases hc : c
  · rw [if_pos hc, if_pos (decide_eq_true hc)]
  · rw [if_neg hc, if_neg (fun w => hc (of_decide_eq_true w))]
