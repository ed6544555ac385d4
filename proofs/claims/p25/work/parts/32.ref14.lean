/-! the reference: its constructor -/
theorem mu_list {L l : List Nat} (hl : l.length = 9) (hm : ∀ a ∈ l, a ∈ L) (hn : l.Nodup) : MuOk (fun i => l.getD i 0) L := by
  have at_ : ∀ i, i < 9 → l[i]? = some (l.getD i 0) := fun i hi => by
    rw [List.getD_eq_getElem?_getD, List.getElem?_eq_getElem (by omega)]; rfl
  refine ⟨fun i hi => hm _ (List.mem_of_getElem? (at_ i hi)), fun i j hi hj h => ?_⟩
  have h1 := at_ i hi
  have h2 := at_ j hj
  dsimp only at h
  rw [h] at h1
  exact (List.getElem?_inj (by omega) hn).mp (h1.trans h2.symm)
abbrev oMd0 : va_E := .inr (6, [.null, .null, .null, .null, .null, .null, .null, .null, .int (iI 0), .int (iI 0), .int (iI 0), .int (iI 0)])
def z0 : Int → Int := fun _ => 0
def S0 : AS := (up (up z0 0 8) 1 4, z0, z0, z0, z0, 0, 0)
