/-! ===== a row of stores that is being filled; cells that are made one behind the other ===== -/
def rwh (τ : Int → Int → Nat) (y : Int) : Int → Option Nat := fun j => if 0 ≤ j ∧ j < y then some (τ j 0) else none
theorem rwh_0 (τ : Int → Int → Nat) : rwh τ 0 = fun _ => none := funext fun j => if_neg (by omega)
theorem rwh_up {τ : Int → Int → Nat} {y : Int} {σ : Int → Nat} (y0 : 0 ≤ y) : up (rwh τ y) y (some (σ 0)) = rwh (up τ y σ) (y + 1) := by
  funext j
  simp only [up, rwh]
  by_cases e : j = y
  · subst e; rw [if_pos rfl, if_pos (by omega), if_pos rfl]
  · rw [if_neg e]
    by_cases h : 0 ≤ j ∧ j < y
    · rw [if_pos h, if_pos (by omega), if_neg e]
    · rw [if_neg h, if_neg (by omega)]
def InFm (ca : Nat → ClassId) (L L1 : List Nat) (M M1 : Mem) (ρ n : Nat) (τ : Int → Int → Nat) (y : Int) : Prop :=
  (∀ b ∈ L, b ∈ L1) ∧ ρ ∈ L ∧ M1 ρ = cR ca 4 n (rwh τ y) ∧ (∀ j, 0 ≤ j → j < y → isSt ca L1 M1 (τ j) cS0) ∧ (∀ j k, 0 ≤ j → j < y → 0 ≤ k → k < 24 → τ j k ∉ L) ∧ (∀ i j a b, 0 ≤ i → i < y → 0 ≤ j → j < y → 0 ≤ a → a < 24 → 0 ≤ b → b < 24 → τ i a = τ j b → i = j ∧ a = b) ∧ ∀ b ∈ L, b ≠ ρ → M1 b = M b
section InitQ
variable {ca : Nat → ClassId} {L L1 L2 L3 : List Nat} {M M1 M2 M3 M4 : Mem} {ρ n : Nat} {τ : Int → Int → Nat} {y : Int} {σ : Int → Nat}
theorem InFm.sub (h : InFm ca L L1 M M1 ρ n τ y) : ∀ b ∈ L, b ∈ L1 := h.1
theorem InFm.rin (h : InFm ca L L1 M M1 ρ n τ y) : ρ ∈ L1 := h.1 _ h.2.1
theorem InFm.row (h : InFm ca L L1 M M1 ρ n τ y) : M1 ρ = cR ca 4 n (rwh τ y) := h.2.2.1
theorem InFm.st (h : InFm ca L L1 M M1 ρ n τ y) {j : Int} (j0 : 0 ≤ j) (j1 : j < y) : isSt ca L1 M1 (τ j) cS0 := h.2.2.2.1 j j0 j1
theorem InFm.new (h : InFm ca L L1 M M1 ρ n τ y) {j k : Int} (j0 : 0 ≤ j) (j1 : j < y) (k0 : 0 ≤ k) (k1 : k < 24) : τ j k ∉ L := h.2.2.2.2.1 j k j0 j1 k0 k1
theorem InFm.inj (h : InFm ca L L1 M M1 ρ n τ y) : ∀ i j a b, 0 ≤ i → i < y → 0 ≤ j → j < y → 0 ≤ a → a < 24 → 0 ≤ b → b < 24 → τ i a = τ j b → i = j ∧ a = b := h.2.2.2.2.2.1
theorem InFm.fr (h : InFm ca L L1 M M1 ρ n τ y) : ∀ b ∈ L, b ≠ ρ → M1 b = M b := h.2.2.2.2.2.2
theorem InFm.zero (hρ : ρ ∈ L) (hM : M ρ = cR ca 4 n (fun _ => none)) : InFm ca L L M M ρ n τ 0 :=
  ⟨fun _ h => h, hρ, hM.trans (by rw [rwh_0]), fun j j0 j1 => absurd j1 (by omega), fun j k j0 j1 => absurd j1 (by omega), fun i j a b i0 i1 => absurd i1 (by omega), fun _ _ _ => rfl⟩
/-- one store more: q is made, begun, and laid into the row -/
theorem InFm.step (h : InFm ca L L1 M M1 ρ n τ y) (y0 : 0 ≤ y) {q : Nat} (hq : q ∉ L1) (hL : L2 = L1 ++ [q]) (hf : ∀ b, b ≠ q → M2 b = M1 b) (s0 : σ 0 = q) (hs : isSt ca L3 M3 σ cS0) (hn : ∀ i, 1 ≤ i → i < 24 → σ i ∉ L2) (hL3 : ∀ b ∈ L2, b ∈ L3) (hf3 : ∀ b ∈ L2, b ≠ q → M3 b = M2 b) (h4 : M4 ρ = cR ca 4 n (up (rwh τ y) y (some q))) (hf4 : ∀ b, b ≠ ρ → M4 b = M3 b) : InFm ca L L3 M M4 ρ n (up τ y σ) (y + 1) := by
  have sub2 : ∀ b ∈ L1, b ∈ L2 := fun b hb => hL ▸ List.mem_append_left _ hb
  have nw : ∀ i, 0 ≤ i → i < 24 → σ i ∉ L1 := fun i i0 i1 hh => by
    by_cases e : i = 0
    · subst e; rw [s0] at hh; exact hq hh
    · exact hn i (by omega) i1 (sub2 _ hh)
  have fr : ∀ b ∈ L1, b ≠ ρ → M4 b = M1 b := fun b hb hr => by
    have hbq : b ≠ q := fun e => hq (e ▸ hb)
    exact (hf4 b hr).trans ((hf3 b (sub2 b hb) hbq).trans (hf b hbq))
  have e1 : ∀ j, j ≠ y → up τ y σ j = τ j := fun j hj => up_ne _ _ hj
  have e2 : up τ y σ y = σ := up_eq _ _ _
  refine ⟨fun b hb => hL3 _ (sub2 _ (h.sub b hb)), h.2.1, by rw [h4, ← s0, rwh_up y0], fun j j0 j1 => ?_, fun j k j0 j1 k0 k1 => ?_, fun i j a b i0 i1 j0 j1 a0 a1 b0 b1 e => ?_, fun b hb hr => (fr b (h.sub b hb) hr).trans (h.fr b hb hr)⟩
  · by_cases e : j = y
    · rw [e, e2]; exact hs.kept (fun i i0 i1 => hf4 _ (fun e => nw i i0 i1 (e ▸ h.rin)))
    · rw [e1 j e]
      have q0 := h.st j0 (by omega : j < y)
      exact (q0.kept (fun i i0 i1 => fr _ (q0.mem i0 i1) (fun e => h.new j0 (by omega : j < y) i0 i1 (e ▸ h.2.1)))).mono (fun b hb => hL3 _ (sub2 _ hb))
  · by_cases e : j = y
    · rw [e, e2]; exact fun hh => nw k k0 k1 (h.sub _ hh)
    · rw [e1 j e]; exact h.new j0 (by omega) k0 k1
  · by_cases ei : i = y <;> by_cases ej : j = y
    · rw [ei, e2, ej, e2] at e
      exact ⟨ei.trans ej.symm, hs.1.2 a b a0 a1 b0 b1 e⟩
    · rw [ei, e2, e1 j ej] at e
      exact absurd ((h.st j0 (by omega : j < y)).mem b0 b1) (e ▸ nw a a0 a1)
    · rw [ej, e2, e1 i ei] at e
      exact absurd ((h.st i0 (by omega : i < y)).mem a0 a1) (e ▸ nw b b0 b1)
    · rw [e1 i ei, e1 j ej] at e
      exact h.inj i j a b i0 (by omega) j0 (by omega) a0 a1 b0 b1 e
end InitQ
def Fam (L L1 : List Nat) (D : Int → Int → Prop) (Sg : Int → Int → Nat) : Prop := (∀ b ∈ L, b ∈ L1) ∧ (∀ s k, D s k → Sg s k ∈ L1 ∧ Sg s k ∉ L) ∧ ∀ s k s' k', D s k → D s' k' → Sg s k = Sg s' k' → s = s' ∧ k = k'
def faA (Sg : Int → Int → Nat) (s0 n : Int) (τ : Int → Int → Nat) : Int → Int → Nat := fun s k => if s0 ≤ s ∧ s < s0 + n then τ (s - s0) k else Sg s k
def ceA (Sg : Int → Int → Nat) (k0 : Int) (q : Nat) : Int → Int → Nat := fun s k => if s = 10 ∧ k = k0 then q else Sg s k
def dm (p c h s k : Int) : Prop := (0 ≤ s ∧ s < p ∧ 0 ≤ k ∧ k < 24) ∨ (s = 10 ∧ 1 ≤ k ∧ k ≤ c) ∨ (4 ≤ s ∧ s < 4 + h ∧ 0 ≤ k ∧ k < 24)
section FamQ
variable {L L1 L2 : List Nat} {D D2 : Int → Int → Prop} {Sg : Int → Int → Nat}
theorem Fam.grow (h : Fam L L1 D Sg) (hs : ∀ b ∈ L1, b ∈ L2) {Sg2 : Int → Int → Nat} (N : Int → Int → Prop) (hD : ∀ s k, D2 s k → (D s k ∧ Sg2 s k = Sg s k) ∨ N s k) (hN : ∀ s k, N s k → Sg2 s k ∈ L2 ∧ Sg2 s k ∉ L1) (hi : ∀ s k s' k', N s k → N s' k' → Sg2 s k = Sg2 s' k' → s = s' ∧ k = k') : Fam L L2 D2 Sg2 := by
  refine ⟨fun b hb => hs b (h.1 b hb), fun s k hd => ?_, fun s k s' k' hd hd' e => ?_⟩
  · rcases hD s k hd with ⟨a, b⟩ | a
    · rw [b]; exact ⟨hs _ (h.2.1 s k a).1, (h.2.1 s k a).2⟩
    · exact ⟨(hN s k a).1, fun hh => (hN s k a).2 (h.1 _ hh)⟩
  · rcases hD s k hd with ⟨a, b⟩ | a <;> rcases hD s' k' hd' with ⟨a', b'⟩ | a'
    · rw [b, b'] at e; exact h.2.2 s k s' k' a a' e
    · rw [b] at e; exact absurd (e ▸ (h.2.1 s k a).1) (hN s' k' a').2
    · rw [b'] at e; exact absurd (e.symm ▸ (h.2.1 s' k' a').1) (hN s k a).2
    · exact hi s k s' k' a a' e
theorem Fam.fam (h : Fam L L1 D Sg) (hs : ∀ b ∈ L1, b ∈ L2) {s0 n : Int} {τ : Int → Int → Nat} (hD : ∀ s k, D2 s k → (D s k ∧ ¬ (s0 ≤ s ∧ s < s0 + n)) ∨ (s0 ≤ s ∧ s < s0 + n ∧ 0 ≤ k ∧ k < 24)) (hN : ∀ j k, 0 ≤ j → j < n → 0 ≤ k → k < 24 → τ j k ∈ L2 ∧ τ j k ∉ L1) (hi : ∀ i j a b, 0 ≤ i → i < n → 0 ≤ j → j < n → 0 ≤ a → a < 24 → 0 ≤ b → b < 24 → τ i a = τ j b → i = j ∧ a = b) : Fam L L2 D2 (faA Sg s0 n τ) :=
  h.grow hs (fun s k => s0 ≤ s ∧ s < s0 + n ∧ 0 ≤ k ∧ k < 24) (fun s k hd => (hD s k hd).imp (fun q => ⟨q.1, if_neg q.2⟩) id)
    (fun s k q => by rw [faA, if_pos ⟨q.1, q.2.1⟩]; exact hN _ k (by omega) (by omega) q.2.2.1 q.2.2.2)
    (fun s k s' k' q q' e => by
      rw [faA, if_pos ⟨q.1, q.2.1⟩, faA, if_pos ⟨q'.1, q'.2.1⟩] at e
      have := hi _ _ k k' (by omega) (by omega) (by omega) (by omega) q.2.2.1 q.2.2.2 q'.2.2.1 q'.2.2.2 e
      exact ⟨by omega, this.2⟩)
theorem Fam.cell (h : Fam L L1 D Sg) (hs : ∀ b ∈ L1, b ∈ L2) {k0 : Int} {q : Nat} (hq : q ∉ L1) (hq2 : q ∈ L2) (hD : ∀ s k, D2 s k → (D s k ∧ ¬ (s = 10 ∧ k = k0)) ∨ (s = 10 ∧ k = k0)) : Fam L L2 D2 (ceA Sg k0 q) :=
  h.grow hs (fun s k => s = 10 ∧ k = k0) (fun s k hd => (hD s k hd).imp (fun q => ⟨q.1, if_neg q.2⟩) id)
    (fun s k q => by rw [ceA, if_pos q]; exact ⟨hq2, hq⟩) (fun s k s' k' q q' _ => by omega)
theorem Fam.adr (h : Fam L L1 (dm 4 7 6) Sg) {o : Nat} (ho : o ∈ L) : Adr L1 (ceA Sg 0 o) := by
  have c : ∀ s k, inD s k → (s = 10 ∧ k = 0) ∨ (¬ (s = 10 ∧ k = 0) ∧ dm 4 7 6 s k) := fun s k hi => by unfold inD at hi; unfold dm; omega
  have e0 : ∀ s k, s = 10 ∧ k = 0 → ceA Sg 0 o s k = o := fun s k q => if_pos q
  have e1 : ∀ s k, ¬ (s = 10 ∧ k = 0) → ceA Sg 0 o s k = Sg s k := fun s k q => if_neg q
  refine ⟨fun s k hi => ?_, fun s k s' k' hi hi' e => ?_⟩
  · rcases c s k hi with a | ⟨a, b⟩
    · rw [e0 s k a]; exact h.1 _ ho
    · rw [e1 s k a]; exact (h.2.1 s k b).1
  · rcases c s k hi with a | ⟨a, b⟩ <;> rcases c s' k' hi' with a' | ⟨a', b'⟩
    · omega
    · rw [e0 s k a, e1 s' k' a'] at e; exact absurd ho (e ▸ (h.2.1 s' k' b').2)
    · rw [e1 s k a, e0 s' k' a'] at e; exact absurd ho (e.symm ▸ (h.2.1 s k b).2)
    · rw [e1 s k a, e1 s' k' a'] at e; exact h.2.2 s k s' k' b b' e
end FamQ
