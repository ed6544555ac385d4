/-! ===== a store that is being made ===== -/
def inB (y z j : Int) : Prop := (1 ≤ j ∧ j ≤ 3) ∨ (20 ≤ j ∧ j < 20 + y) ∨ (4 ≤ j ∧ j < 4 + z)
def rwq (σ : Int → Nat) (o y : Int) : Int → Option Nat := fun j => if 0 ≤ j ∧ j < y then some (σ (o + j)) else none
def InSt (ca : Nat → ClassId) (L L1 : List Nat) (M M1 : Mem) (σ : Int → Nat) (y z : Int) : Prop :=
  (∀ b ∈ L, b ∈ L1) ∧ σ 0 ∈ L ∧ (∀ j, inB y z j → σ j ∈ L1 ∧ σ j ∉ L) ∧ (∀ i j, inB y z i → inB y z j → σ i = σ j → i = j) ∧ M1 (σ 0) = .inr (3, [.ref (σ 1), .ref (σ 2), .ref (σ 3), .int (iI 0), .int (iI 0)]) ∧ M1 (σ 1) = cI ca 4 tFS ∧ M1 (σ 2) = cR ca 5 4 (rwq σ 20 y) ∧ M1 (σ 3) = cR ca 3 16 (rwq σ 4 z) ∧ (∀ j, 0 ≤ j → j < y → M1 (σ (20 + j)) = oRow z0) ∧ (∀ j, 0 ≤ j → j < z → M1 (σ (4 + j)) = oBank bkBegin) ∧ ∀ b ∈ L, b ≠ σ 0 → M1 b = M b
def cS0 : Int → Int := fun k => if k = 0 then 8 else if k = 1 then 4 else if 6 ≤ k ∧ k < 70 ∧ (k - 7) % 4 = 0 then -1 else 0
theorem rwq_0 (σ : Int → Nat) (o : Int) : rwq σ o 0 = fun _ => none := funext fun j => if_neg (by omega)
theorem rwq_up {σ : Int → Nat} {o y : Int} {q : Nat} (y0 : 0 ≤ y) : up (rwq σ o y) y (some q) = rwq (up σ (o + y) q) o (y + 1) := by
  funext j
  simp only [up, rwq]
  by_cases e : j = y
  · subst e; rw [if_pos rfl, if_pos (by omega), if_pos rfl]
  · rw [if_neg e]
    by_cases h : 0 ≤ j ∧ j < y
    · rw [if_pos h, if_pos (by omega), if_neg (by omega)]
    · rw [if_neg h, if_neg (by omega)]
theorem rwq_other {σ : Int → Nat} {o y p : Int} {q : Nat} (h : ∀ j, 0 ≤ j → j < y → o + j ≠ p) : rwq (up σ p q) o y = rwq σ o y := by
  funext j
  simp only [up, rwq]
  by_cases e : 0 ≤ j ∧ j < y
  · rw [if_pos e, if_pos e, if_neg (h j e.1 e.2)]
  · rw [if_neg e, if_neg e]
section InitP
variable {ca : Nat → ClassId} {L L1 L2 : List Nat} {M M1 M2 : Mem} {σ : Int → Nat} {y z : Int}
theorem InSt.sub (h : InSt ca L L1 M M1 σ y z) : ∀ b ∈ L, b ∈ L1 := h.1
theorem InSt.oin (h : InSt ca L L1 M M1 σ y z) : σ 0 ∈ L1 := h.1 _ h.2.1
theorem InSt.mem (h : InSt ca L L1 M M1 σ y z) {j : Int} (hj : inB y z j) : σ j ∈ L1 := (h.2.2.1 j hj).1
theorem InSt.new (h : InSt ca L L1 M M1 σ y z) {j : Int} (hj : inB y z j) : σ j ∉ L := (h.2.2.1 j hj).2
theorem InSt.inj (h : InSt ca L L1 M M1 σ y z) {i j : Int} (hi : inB y z i) (hj : inB y z j) (hn : i ≠ j) : σ i ≠ σ j := fun e => hn (h.2.2.2.1 i j hi hj e)
theorem InSt.ne0 (h : InSt ca L L1 M M1 σ y z) {j : Int} (hj : inB y z j) : σ 0 ≠ σ j := fun e => h.new hj (e ▸ h.2.1)
theorem InSt.obj (h : InSt ca L L1 M M1 σ y z) : M1 (σ 0) = .inr (3, [.ref (σ 1), .ref (σ 2), .ref (σ 3), .int (iI 0), .int (iI 0)]) := h.2.2.2.2.1
theorem InSt.set (h : InSt ca L L1 M M1 σ y z) : M1 (σ 1) = cI ca 4 tFS := h.2.2.2.2.2.1
theorem InSt.strs (h : InSt ca L L1 M M1 σ y z) : M1 (σ 2) = cR ca 5 4 (rwq σ 20 y) := h.2.2.2.2.2.2.1
theorem InSt.bks (h : InSt ca L L1 M M1 σ y z) : M1 (σ 3) = cR ca 3 16 (rwq σ 4 z) := h.2.2.2.2.2.2.2.1
theorem InSt.rows (h : InSt ca L L1 M M1 σ y z) {j : Int} (j0 : 0 ≤ j) (j1 : j < y) : M1 (σ (20 + j)) = oRow z0 := h.2.2.2.2.2.2.2.2.1 j j0 j1
theorem InSt.banks (h : InSt ca L L1 M M1 σ y z) {j : Int} (j0 : 0 ≤ j) (j1 : j < z) : M1 (σ (4 + j)) = oBank bkBegin := h.2.2.2.2.2.2.2.2.2.1 j j0 j1
theorem InSt.fr (h : InSt ca L L1 M M1 σ y z) : ∀ b ∈ L, b ≠ σ 0 → M1 b = M b := h.2.2.2.2.2.2.2.2.2.2
/-- one cell more -/
theorem InSt.row (h : InSt ca L L1 M M1 σ y z) (y0 : 0 ≤ y) (y4 : y < 4) (z0' : 0 ≤ z) (z16 : z ≤ 16) {q : Nat} (hq : q ∉ L1) (hL : L2 = L1 ++ [q]) (hMq : M2 q = oRow z0) (hM2 : M2 (σ 2) = cR ca 5 4 (up (rwq σ 20 y) y (some q))) (hf : ∀ b, b ≠ q → b ≠ σ 2 → M2 b = M1 b) : InSt ca L L2 M M2 (up σ (20 + y) q) (y + 1) z := by
  have old : ∀ j, j = 0 ∨ inB y z j → up σ (20 + y) q j = σ j := fun j hj => up_ne _ _ (by unfold inB at hj; omega)
  have B : ∀ j, inB (y + 1) z j → j = 20 + y ∨ inB y z j := fun j hj => by unfold inB at hj ⊢; omega
  have nq : ∀ j, inB y z j → σ j ≠ q := fun j hj e => hq (e ▸ h.mem hj)
  have nq0 : σ 0 ≠ q := fun e => hq (e ▸ h.oin)
  have keep : ∀ j, inB y z j → j ≠ 2 → M2 (σ j) = M1 (σ j) := fun j hj h2 => hf _ (nq j hj) (h.inj hj (by unfold inB; omega) h2)
  have i1 : inB y z 1 := by unfold inB; omega
  have i2 : inB y z 2 := by unfold inB; omega
  have i3 : inB y z 3 := by unfold inB; omega
  have e0 := old 0 (Or.inl rfl)
  refine ⟨fun b hb => hL ▸ List.mem_append_left _ (h.sub b hb), by rw [e0]; exact h.2.1, fun j hj => ?_, fun i j hi hj e => ?_, ?_, ?_, ?_, ?_, fun j j0 j1 => ?_, fun j j0 j1 => ?_, fun b hb hb0 => ?_⟩
  · rcases B j hj with e | e
    · subst e; rw [up_eq]; exact ⟨hL ▸ List.mem_append_right _ List.mem_cons_self, fun hh => hq (h.sub _ hh)⟩
    · rw [old j (Or.inr e)]; exact ⟨hL ▸ List.mem_append_left _ (h.mem e), h.new e⟩
  · rcases B i hi with a | a <;> rcases B j hj with b | b
    · rw [a, b]
    · rw [a, up_eq, old j (Or.inr b)] at e; exact absurd e.symm (nq j b)
    · rw [b, up_eq, old i (Or.inr a)] at e; exact absurd e (nq i a)
    · rw [old i (Or.inr a), old j (Or.inr b)] at e; exact h.2.2.2.1 i j a b e
  · rw [e0, old 1 (Or.inr i1), old 2 (Or.inr i2), old 3 (Or.inr i3), hf _ nq0 (h.ne0 i2)]; exact h.obj
  · rw [old 1 (Or.inr i1), keep 1 i1 (by decide)]; exact h.set
  · rw [old 2 (Or.inr i2), hM2, rwq_up y0]
  · rw [old 3 (Or.inr i3), keep 3 i3 (by decide), h.bks, rwq_other (fun j j0 j1 => by omega)]
  · by_cases e : j = y
    · subst e; rw [up_eq]; exact hMq
    · have ij : inB y z (20 + j) := by unfold inB; omega
      rw [old _ (Or.inr ij), keep _ ij (by omega)]; exact h.rows j0 (by omega)
  · have ij : inB y z (4 + j) := by unfold inB; omega
    rw [old _ (Or.inr ij), keep _ ij (by omega)]; exact h.banks j0 j1
  · rw [e0] at hb0
    rw [hf b (fun e => hq (e ▸ h.sub b hb)) (fun e => h.new i2 (e ▸ hb))]; exact h.fr b hb hb0
theorem InSt.bnk (h : InSt ca L L1 M M1 σ y z) (y0 : 0 ≤ y) (y4 : y ≤ 4) (z0' : 0 ≤ z) (z16 : z < 16) {q : Nat} (hq : q ∉ L1) (hL : L2 = L1 ++ [q]) (hMq : M2 q = oBank bkBegin) (hM2 : M2 (σ 3) = cR ca 3 16 (up (rwq σ 4 z) z (some q))) (hf : ∀ b, b ≠ q → b ≠ σ 3 → M2 b = M1 b) : InSt ca L L2 M M2 (up σ (4 + z) q) y (z + 1) := by
  have old : ∀ j, j = 0 ∨ inB y z j → up σ (4 + z) q j = σ j := fun j hj => up_ne _ _ (by unfold inB at hj; omega)
  have B : ∀ j, inB y (z + 1) j → j = 4 + z ∨ inB y z j := fun j hj => by unfold inB at hj ⊢; omega
  have nq : ∀ j, inB y z j → σ j ≠ q := fun j hj e => hq (e ▸ h.mem hj)
  have nq0 : σ 0 ≠ q := fun e => hq (e ▸ h.oin)
  have keep : ∀ j, inB y z j → j ≠ 3 → M2 (σ j) = M1 (σ j) := fun j hj h2 => hf _ (nq j hj) (h.inj hj (by unfold inB; omega) h2)
  have i1 : inB y z 1 := by unfold inB; omega
  have i2 : inB y z 2 := by unfold inB; omega
  have i3 : inB y z 3 := by unfold inB; omega
  have e0 := old 0 (Or.inl rfl)
  refine ⟨fun b hb => hL ▸ List.mem_append_left _ (h.sub b hb), by rw [e0]; exact h.2.1, fun j hj => ?_, fun i j hi hj e => ?_, ?_, ?_, ?_, ?_, fun j j0 j1 => ?_, fun j j0 j1 => ?_, fun b hb hb0 => ?_⟩
  · rcases B j hj with e | e
    · subst e; rw [up_eq]; exact ⟨hL ▸ List.mem_append_right _ List.mem_cons_self, fun hh => hq (h.sub _ hh)⟩
    · rw [old j (Or.inr e)]; exact ⟨hL ▸ List.mem_append_left _ (h.mem e), h.new e⟩
  · rcases B i hi with a | a <;> rcases B j hj with b | b
    · rw [a, b]
    · rw [a, up_eq, old j (Or.inr b)] at e; exact absurd e.symm (nq j b)
    · rw [b, up_eq, old i (Or.inr a)] at e; exact absurd e (nq i a)
    · rw [old i (Or.inr a), old j (Or.inr b)] at e; exact h.2.2.2.1 i j a b e
  · rw [e0, old 1 (Or.inr i1), old 2 (Or.inr i2), old 3 (Or.inr i3), hf _ nq0 (h.ne0 i3)]; exact h.obj
  · rw [old 1 (Or.inr i1), keep 1 i1 (by decide)]; exact h.set
  · rw [old 2 (Or.inr i2), keep 2 i2 (by decide), h.strs, rwq_other (fun j j0 j1 => by omega)]
  · rw [old 3 (Or.inr i3), hM2, rwq_up z0']
  · have ij : inB y z (20 + j) := by unfold inB; omega
    rw [old _ (Or.inr ij), keep _ ij (by omega)]; exact h.rows j0 j1
  · by_cases e : j = z
    · subst e; rw [up_eq]; exact hMq
    · have ij : inB y z (4 + j) := by unfold inB; omega
      rw [old _ (Or.inr ij), keep _ ij (by omega)]; exact h.banks j0 (by omega)
  · rw [e0] at hb0
    rw [hf b (fun e => hq (e ▸ h.sub b hb)) (fun e => h.new i3 (e ▸ hb))]; exact h.fr b hb hb0
theorem InSt.done (h : InSt ca L L1 M M1 σ 4 16) : isSt ca L1 M1 σ cS0 := by
  have B : ∀ j, 0 ≤ j → j < 24 → j = 0 ∨ inB 4 16 j := fun j j0 j1 => by unfold inB; omega
  refine ⟨⟨fun i i0 i1 => ?_, fun i j i0 i1 j0 j1 e => ?_⟩, h.obj, ?_, ?_, ?_, fun b b0 b1 => ?_, fun i i0 i1 => ?_⟩
  · rcases B i i0 i1 with q | q
    · subst q; exact h.oin
    · exact h.mem q
  · rcases B i i0 i1 with a | a <;> rcases B j j0 j1 with b | b
    · rw [a, b]
    · subst a; exact absurd e (h.ne0 b)
    · subst b; exact absurd e.symm (h.ne0 a)
    · exact h.2.2.2.1 i j a b e
  · rw [h.set]
    exact cI_ext (fun k k0 k1 => by
      rcases (by omega : k = 0 ∨ k = 1 ∨ k = 2 ∨ k = 3) with q | q | q | q <;> subst q <;> decide)
  · rw [h.strs]
    exact cR_ext fun j => by
      unfold rwq
      by_cases q : (j : Int) < 4
      · rw [if_pos (by omega), if_pos q]
      · rw [if_neg (by omega), if_neg q]
  · rw [h.bks]
    exact cR_ext fun j => by
      unfold rwq
      by_cases q : (j : Int) < 16
      · rw [if_pos (by omega), if_pos q]
      · rw [if_neg (by omega), if_neg q]
  · rw [h.banks b0 b1]
    exact setB_cell (c := cS0) (fun k k0 k1 => by
      unfold cS0
      rw [if_neg (by omega), if_neg (by omega)]
      by_cases q : k = 1
      · subst q; rw [if_pos (by omega)]; rfl
      · rw [if_neg (by omega)]
        unfold bkBegin
        rw [if_neg q])
  · rw [h.rows i0 i1]
    exact setR_cell (fun k k0 k1 => by
      unfold cS0
      rw [if_neg (by omega), if_neg (by omega), if_neg (by omega)]; rfl)
theorem isSt.mono {c : Int → Int} (h : isSt ca L M σ c) (hs : ∀ b ∈ L, b ∈ L1) : isSt ca L1 M σ c := ⟨⟨fun i i0 i1 => hs _ (h.1.1 i i0 i1), h.1.2⟩, h.2⟩
end InitP
theorem g_cs {p : Program} {l : Launch} {e : Env} {R : Room} {s : State} {m : MethodId} {args : Array Value} {below : List Frame} {meth : Method} {c : Code} {D : va_G} {A : Nat → Prop} {nL : Nat} {Q : State → Prop} {cells slots : Nat} {L : List Nat} {M : Mem} {pc : Nat} {lv : List (Nat × Value)} {st : List Value} {c2 s2 : Nat} (hc : cells = c2) (hs : slots = s2) (k : G p l e R s m args below meth c D A nL Q c2 s2 L M pc lv st) : G p l e R s m args below meth c D A nL Q cells slots L M pc lv st := by
  subst hc hs; exact k
