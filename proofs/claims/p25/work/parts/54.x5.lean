/-! the class: texts -/
def chN (x : Int64) : Int := if ptN x < 0 then 0 else ptN x
theorem chN_or (x : Int64) : (ptN x ≤ 0 ∧ chN x = 0) ∨ (0 < ptN x ∧ chN x = ptN x ∧ chN x ≤ 8) := by
  have h := ptN_rng x
  unfold chN
  split <;> omega
theorem fo_fault {pa nu : Int → Int} {len : Int} (h0 : 0 ≤ len) (h1 : len ≤ 60) : (foB pa len < 0 ∧ (caP pa nu len).1 = -6 ∧ (caP pa nu len).2.2 = 3 * foK pa len ∧ ∀ k, 0 ≤ k → k < 3 * foK pa len → (caP pa nu len).2.1 k = foR pa len k) ∨ (0 ≤ foB pa len ∧ (caP pa nu len).1 = foB pa len) := by
  obtain ⟨a, b⟩ := ca_fo (pa := pa) (nu := nu) h0 h1
  cases h : (foP pa len rd0).1
  · obtain ⟨b1, b2⟩ := b h
    refine Or.inr ?_
    unfold foB
    rw [h, if_neg (by decide)]
    exact ⟨b2, b1⟩
  · obtain ⟨a1, a2, a3⟩ := a h
    refine Or.inl ⟨?_, a1, a2, a3⟩
    unfold foB
    rw [h, if_pos rfl]; decide
theorem foB_rng {pa : Int → Int} {len : Int} (h1 : len ≤ 60) : foB pa len ≤ 60 := by
  have h := (fo_ok (pa := pa) h1).2.2.1
  unfold foB
  split
  · decide
  · exact h
theorem okAdd.a {a b z : Int} (h : okAdd a b z) : 0 ≤ a ∧ a < 4096 := ⟨h.1.1, by have := h.1.2; omega⟩
