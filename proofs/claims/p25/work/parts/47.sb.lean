/-! ===== the class's whole state ===== -/
abbrev oSB (Sg : Int → Int → Nat) : va_E := .inr (5, [.ref (Sg 0 0), .ref (Sg 1 0), .ref (Sg 10 1), .ref (Sg 10 3), .ref (Sg 10 4), .ref (Sg 10 5)])
def slq (Sg : Int → Int → Nat) : Int → Option Nat := fun j => if j < 2 then some (Sg (2 + j) 0) else none
def FX (ca : Nat → ClassId) (M : Mem) (Sg : Int → Int → Nat) (iz : Int → Int) : Prop := M (Sg 10 0) = oSB Sg ∧ M (Sg 10 3) = cR ca 4 2 (slq Sg) ∧ M (Sg 10 4) = cZ ca 2 iz
def PD (ca : Nat → ClassId) (M : Mem) (Sg : Int → Int → Nat) (pa : Int → Int) (len : Int) : Prop := ∃ (nf : Int) (nu : Int → Int), M (Sg 10 5) = oPad Sg len nf ∧ M (Sg 10 6) = cC ca 60 pa ∧ M (Sg 10 7) = cI ca 60 nu
def SL (ca : Nat → ClassId) (L : List Nat) (M : Mem) (Sg : Int → Int → Nat) (sa iz : Int → Int) : Prop := ∀ k, 0 ≤ k → k < 2 → ∃ c, isSt ca L M (Sg (2 + k)) c ∧ (iz k ≠ 0 → Rel c (blk (110 * k) sa))
def SBm (ca : Nat → ClassId) (L : List Nat) (M : Mem) (Sg : Int → Int → Nat) (S : AS) : Prop := Adr L Sg ∧ FX ca M Sg S.2.2.2.1 ∧ PD ca M Sg S.2.2.2.2.1 S.2.2.2.2.2.1 ∧ HS ca L M Sg S.2.2.2.2.2.2 S.2.1 ∧ (∃ c, isSt ca L M (Sg 0) c ∧ Rel c S.1) ∧ (∃ c, isSt ca L M (Sg 1) c) ∧ SL ca L M Sg S.2.2.1 S.2.2.2.1
def WfG (g : Int → Int) : Prop := Inv g ∧ InvZ g ∧ g 4 ≤ 99999
def WfA (S : AS) : Prop := WfG S.1 ∧ (0 ≤ S.2.2.2.2.2.1 ∧ S.2.2.2.2.2.1 ≤ 60) ∧ (0 ≤ S.2.2.2.2.2.2 ∧ S.2.2.2.2.2.2 ≤ 6) ∧ InvP S.2.2.2.2.1 ∧ (∀ j, 0 ≤ j → j < S.2.2.2.2.2.2 → WfG (blk (110 * j) S.2.1)) ∧ (∀ k, 0 ≤ k → k < 2 → (S.2.2.2.1 k = 0 ∨ S.2.2.2.1 k = 1) ∧ (S.2.2.2.1 k ≠ 0 → WfG (blk (110 * k) S.2.2.1)))
def outA (Sg : Int → Int → Nat) (M M1 : Mem) : Prop := ∀ x, (∀ s k, inD s k → x ≠ Sg s k) → M1 x = M x
/-- what a call of the class leaves -/
def SBo (ca : Nat → ClassId) (L : List Nat) (M M1 : Mem) (Sg : Int → Int → Nat) (S : AS) : Prop := ∃ Sg2, SBm ca L M1 Sg2 S ∧ Sg2 10 0 = Sg 10 0 ∧ (∀ s k, inD s k → ∃ s' k', inD s' k' ∧ Sg2 s k = Sg s' k') ∧ outA Sg M M1
section Sb
variable {ca : Nat → ClassId} {L : List Nat} {M M1 : Mem} {Sg : Int → Int → Nat}
theorem FX.kept {iz : Int → Int} (h : FX ca M Sg iz) (h0 : M1 (Sg 10 0) = M (Sg 10 0)) (h3 : M1 (Sg 10 3) = M (Sg 10 3)) (h4 : M1 (Sg 10 4) = M (Sg 10 4)) : FX ca M1 Sg iz := ⟨h0.trans h.1, h3.trans h.2.1, h4.trans h.2.2⟩
theorem PD.kept {pa : Int → Int} {len : Int} (h : PD ca M Sg pa len) (h5 : M1 (Sg 10 5) = M (Sg 10 5)) (h6 : M1 (Sg 10 6) = M (Sg 10 6)) (h7 : M1 (Sg 10 7) = M (Sg 10 7)) : PD ca M1 Sg pa len := by
  obtain ⟨nf, nu, a, b, c⟩ := h
  exact ⟨nf, nu, h5.trans a, h6.trans b, h7.trans c⟩
theorem HS.kept {st : Int} {be : Int → Int} (h : HS ca L M Sg st be) (h1 : M1 (Sg 10 1) = M (Sg 10 1)) (h2 : M1 (Sg 10 2) = M (Sg 10 2)) (hs : ∀ s k, 4 ≤ s → s < 10 → 0 ≤ k → k < 24 → M1 (Sg s k) = M (Sg s k)) : HS ca L M1 Sg st be := by
  obtain ⟨π, a, b, c, d⟩ := h
  refine ⟨π, a, h1.trans b, h2.trans c, fun j j0 j1 => ?_⟩
  obtain ⟨c1, q1, q2⟩ := d j j0 j1
  have hp := a.1 j j0 j1
  exact ⟨c1, q1.kept (fun i i0 i1 => hs _ _ (by omega) (by omega) i0 i1), q2⟩
theorem HS.obj {st : Int} {be : Int → Int} (h : HS ca L M Sg st be) : M (Sg 10 1) = oHi Sg st := by
  obtain ⟨π, a, b, c, d⟩ := h; exact b
theorem SL.kept {sa iz : Int → Int} (h : SL ca L M Sg sa iz) (hs : ∀ s k, 2 ≤ s → s < 4 → 0 ≤ k → k < 24 → M1 (Sg s k) = M (Sg s k)) : SL ca L M1 Sg sa iz := fun k k0 k1 => by
  obtain ⟨c1, q1, q2⟩ := h k k0 k1
  exact ⟨c1, q1.kept (fun i i0 i1 => hs _ _ (by omega) (by omega) i0 i1), q2⟩
theorem TR.kept (h : ∃ c, isSt ca L M (Sg 1) c) (hs : ∀ k, 0 ≤ k → k < 24 → M1 (Sg 1 k) = M (Sg 1 k)) : ∃ c, isSt ca L M1 (Sg 1) c := by
  obtain ⟨c, q⟩ := h; exact ⟨c, q.kept hs⟩
theorem SBo.same {S : AS} (h : SBm ca L M1 Sg S) (ho : outA Sg M M1) : SBo ca L M M1 Sg S := ⟨Sg, h, rfl, fun s k hi => ⟨s, k, hi, rfl⟩, ho⟩
end Sb
theorem rel_set {c g : Int → Int} (h : Rel c g) {k v : Int} (k0 : 0 ≤ k) (k4 : k < 4) : RelL (up c k v) (up g k v) := by
  obtain ⟨⟨e0, e1, e2, e3, e4, e5⟩, -, hQ⟩ := h
  have u : ∀ j, c j = g j → up c k v j = up g k v j := fun j e => by simp only [up]; split; (· rfl); (· exact e)
  refine ⟨⟨u _ e0, u _ e1, u _ e2, u _ e3, u _ e5⟩, fun i i0 i1 => ?_⟩
  rw [up_ne _ _ (by omega)] at i1
  obtain ⟨q0, q1, q2, -⟩ := hQ i i0 i1
  exact ⟨u _ q0, u _ q1, u _ q2⟩
theorem bga_wf {g : Int → Int} (hS : InvS g) (hL : InvL g) : WfG (bgaG g) := by
  refine ⟨bga_inv hS hL, fun b b0 b1 => ?_, by rw [bga_cyc]; decide⟩
  have := hS.1
  rw [bga_low (by decide) (by decide)] at b0
  exact bga_bank g (by omega) (by omega)
theorem set_inv {g : Int → Int} (hI : Inv g) {k v : Int} (hk : isSet k v) : InvS (up g k v) ∧ InvL (up g k v) := by
  obtain ⟨s0, s1, s2, s3, s4, s5⟩ := id hI.1
  refine ⟨?_, fun i i0 i1 => ?_⟩
  · unfold isSet at hk
    unfold InvS
    rcases hk with h | h | h | h <;> obtain ⟨rfl, h⟩ := h
    · rw [up_eq, up_ne _ _ (by decide), up_ne _ _ (by decide), up_ne _ _ (by decide), up_ne _ _ (by decide), up_ne _ _ (by decide)]; exact ⟨h, s1, s2, s3, s4, s5⟩
    · rw [up_eq, up_ne _ _ (by decide), up_ne _ _ (by decide), up_ne _ _ (by decide), up_ne _ _ (by decide), up_ne _ _ (by decide)]; exact ⟨s0, h, s2, s3, s4, s5⟩
    · rw [up_eq, up_ne _ _ (by decide), up_ne _ _ (by decide), up_ne _ _ (by decide), up_ne _ _ (by decide), up_ne _ _ (by decide)]; exact ⟨s0, s1, h, s3, s4, s5⟩
    · rw [up_eq, up_ne _ _ (by decide), up_ne _ _ (by decide), up_ne _ _ (by decide), up_ne _ _ (by decide), up_ne _ _ (by decide)]; exact ⟨s0, s1, s2, h, s4, s5⟩
  · have hk2 : k < 4 ∧ 0 ≤ k := by unfold isSet at hk; omega
    rw [up_ne _ _ (by omega)] at i1
    rw [up_ne _ _ (by omega), up_ne _ _ (by omega), up_ne _ _ (by omega)]
    exact hI.L i i0 i1
theorem set_rng {k v : Int} : isSet k v ↔ (0 ≤ k ∧ k ≤ 3) ∧ tLS k ≤ v ∧ v ≤ tMS k := by
  unfold isSet
  constructor
  · intro h
    rcases h with h | h | h | h <;> obtain ⟨rfl, h⟩ := h
    · exact ⟨by decide, h⟩
    · exact ⟨by decide, h⟩
    · exact ⟨by decide, h⟩
    · exact ⟨by decide, h⟩
  · intro ⟨h, h2⟩
    rcases (by omega : k = 0 ∨ k = 1 ∨ k = 2 ∨ k = 3) with e | e | e | e <;> subst e
    · exact Or.inl ⟨rfl, h2⟩
    · exact Or.inr (Or.inl ⟨rfl, h2⟩)
    · exact Or.inr (Or.inr (Or.inl ⟨rfl, h2⟩))
    · exact Or.inr (Or.inr (Or.inr ⟨rfl, h2⟩))
