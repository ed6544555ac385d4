/-! ===== the class's store: 24 cells, one function of numbers, laid as the reference lays them ===== -/
abbrev oStore (σ : Int → Nat) (c : Int → Int) : va_E := .inr (3, [.ref (σ 1), .ref (σ 2), .ref (σ 3), .int (iI (c 5)), .int (iI (c 4))])
abbrev fBank (c : Int → Int) (b : Int) : Int → Int := fun k => c (6 + 4 * b + k)
abbrev fRow (c : Int → Int) (i : Int) : Int → Int := fun k => c (70 + 10 * i + k)
abbrev cBank (c : Int → Int) (b : Int) : va_E := .inr (0, [.int (iI (c (6 + 4 * b))), .int (iI (c (6 + 4 * b + 1))), .int (iI (c (6 + 4 * b + 2))), .int (iI (c (6 + 4 * b + 3)))])
abbrev cRow (c : Int → Int) (i : Int) : va_E := .inr (4, [.int (iI (c (70 + 10 * i))), .int (iI (c (70 + 10 * i + 1))), .int (iI (c (70 + 10 * i + 2))), .int (iI (c (70 + 10 * i + 3))), .int (iI (c (70 + 10 * i + 4))), .int (iI (c (70 + 10 * i + 5))), .int (iI (c (70 + 10 * i + 6))), .int (iI (c (70 + 10 * i + 7)))])
def isSt (ca : Nat → ClassId) (L : List Nat) (M : Mem) (σ : Int → Nat) (c : Int → Int) : Prop :=
  ((∀ i, 0 ≤ i → i < 24 → σ i ∈ L) ∧ (∀ i j, 0 ≤ i → i < 24 → 0 ≤ j → j < 24 → σ i = σ j → i = j)) ∧
  M (σ 0) = oStore σ c ∧ M (σ 1) = cI ca 4 c ∧ M (σ 2) = cR ca 5 4 (fun j => if j < 4 then some (σ (20 + j)) else none) ∧ M (σ 3) = cR ca 3 16 (fun j => if j < 16 then some (σ (4 + j)) else none) ∧
  (∀ b, 0 ≤ b → b < 16 → M (σ (4 + b)) = cBank c b) ∧ (∀ i, 0 ≤ i → i < 4 → M (σ (20 + i)) = cRow c i)
section Store
variable {ca : Nat → ClassId} {L : List Nat} {M M1 : Mem} {σ : Int → Nat} {c : Int → Int}
theorem isSt.mem (h : isSt ca L M σ c) {i : Int} (h0 : 0 ≤ i) (h1 : i < 24) : σ i ∈ L := h.1.1 i h0 h1
theorem isSt.ne (h : isSt ca L M σ c) {i j : Int} (h0 : 0 ≤ i) (h1 : i < 24) (k0 : 0 ≤ j) (k1 : j < 24) (hij : i ≠ j) : σ i ≠ σ j := fun q => hij (h.1.2 i j h0 h1 k0 k1 q)
theorem isSt.obj (h : isSt ca L M σ c) : M (σ 0) = oStore σ c := h.2.1
theorem isSt.set (h : isSt ca L M σ c) : M (σ 1) = cI ca 4 c := h.2.2.1
theorem isSt.strs (h : isSt ca L M σ c) : M (σ 2) = cR ca 5 4 (fun j => if j < 4 then some (σ (20 + j)) else none) := h.2.2.2.1
theorem isSt.bks (h : isSt ca L M σ c) : M (σ 3) = cR ca 3 16 (fun j => if j < 16 then some (σ (4 + j)) else none) := h.2.2.2.2.1
theorem isSt.bank (h : isSt ca L M σ c) {b : Int} (h0 : 0 ≤ b) (h1 : b < 16) : M (σ (4 + b)) = cBank c b := h.2.2.2.2.2.1 b h0 h1
theorem isSt.row (h : isSt ca L M σ c) {i : Int} (h0 : 0 ≤ i) (h1 : i < 4) : M (σ (20 + i)) = cRow c i := h.2.2.2.2.2.2 i h0 h1
theorem cBank_eq (c : Int → Int) (b : Int) : cBank c b = oBank (fBank c b) := by show _ = _; simp only [oBank, fBank, Int.add_zero]
theorem cRow_eq (c : Int → Int) (i : Int) : cRow c i = oRow (fRow c i) := by show _ = _; simp only [oRow, fRow, Int.add_zero]
/-- untouched -/
theorem isSt.kept (h : isSt ca L M σ c) (hf : ∀ i, 0 ≤ i → i < 24 → M1 (σ i) = M (σ i)) : isSt ca L M1 σ c :=
  ⟨h.1, (hf 0 (by decide) (by decide)).trans h.obj, (hf 1 (by decide) (by decide)).trans h.set, (hf 2 (by decide) (by decide)).trans h.strs, (hf 3 (by decide) (by decide)).trans h.bks, fun b h0 h1 => (hf _ (by omega) (by omega)).trans (h.bank h0 h1), fun i h0 h1 => (hf _ (by omega) (by omega)).trans (h.row h0 h1)⟩
/-- a cell is written: the numbers change there alone -/
theorem isSt.putBank (h : isSt ca L M σ c) {b : Int} (h0 : 0 ≤ b) (h1 : b < 16) {c' : Int → Int} (hM : M1 (σ (4 + b)) = cBank c' b) (hf : ∀ x, x ≠ σ (4 + b) → M1 x = M x) (hc : ∀ k, ¬ (6 + 4 * b ≤ k ∧ k < 6 + 4 * b + 4) → c' k = c k) : isSt ca L M1 σ c' := by
  have n := fun (i : Int) (q0 : 0 ≤ i) (q1 : i < 24) (q2 : i ≠ 4 + b) => hf (σ i) (h.ne q0 q1 (by omega) (by omega) q2)
  refine ⟨h.1, ?_, ?_, ?_, ?_, fun j j0 j1 => ?_, fun i i0 i1 => ?_⟩
  · rw [n 0 (by decide) (by decide) (by omega), h.obj, oStore, oStore, hc 5 (by omega), hc 4 (by omega)]
  · rw [n 1 (by decide) (by decide) (by omega), h.set]; exact cI_ext (fun k k0 k1 => (hc _ (by omega)).symm)
  · rw [n 2 (by decide) (by decide) (by omega), h.strs]
  · rw [n 3 (by decide) (by decide) (by omega), h.bks]
  · by_cases e : j = b
    · subst e; exact hM
    · rw [n (4 + j) (by omega) (by omega) (by omega), h.bank j0 j1, cBank, cBank, hc _ (by omega), hc _ (by omega), hc _ (by omega), hc _ (by omega)]
  · rw [n (20 + i) (by omega) (by omega) (by omega), h.row i0 i1, cRow, cRow, hc _ (by omega), hc _ (by omega), hc _ (by omega), hc _ (by omega), hc _ (by omega), hc _ (by omega), hc _ (by omega), hc _ (by omega)]
theorem isSt.putRow (h : isSt ca L M σ c) {i : Int} (h0 : 0 ≤ i) (h1 : i < 4) {c' : Int → Int} (hM : M1 (σ (20 + i)) = cRow c' i) (hf : ∀ x, x ≠ σ (20 + i) → M1 x = M x) (hc : ∀ k, ¬ (70 + 10 * i ≤ k ∧ k < 70 + 10 * i + 8) → c' k = c k) : isSt ca L M1 σ c' := by
  have n := fun (j : Int) (q0 : 0 ≤ j) (q1 : j < 24) (q2 : j ≠ 20 + i) => hf (σ j) (h.ne q0 q1 (by omega) (by omega) q2)
  refine ⟨h.1, ?_, ?_, ?_, ?_, fun j j0 j1 => ?_, fun j j0 j1 => ?_⟩
  · rw [n 0 (by decide) (by decide) (by omega), h.obj, oStore, oStore, hc 5 (by omega), hc 4 (by omega)]
  · rw [n 1 (by decide) (by decide) (by omega), h.set]; exact cI_ext (fun k k0 k1 => (hc _ (by omega)).symm)
  · rw [n 2 (by decide) (by decide) (by omega), h.strs]
  · rw [n 3 (by decide) (by decide) (by omega), h.bks]
  · rw [n (4 + j) (by omega) (by omega) (by omega), h.bank j0 j1, cBank, cBank, hc _ (by omega), hc _ (by omega), hc _ (by omega), hc _ (by omega)]
  · by_cases e : j = i
    · subst e; exact hM
    · rw [n (20 + j) (by omega) (by omega) (by omega), h.row j0 j1, cRow, cRow, hc _ (by omega), hc _ (by omega), hc _ (by omega), hc _ (by omega), hc _ (by omega), hc _ (by omega), hc _ (by omega), hc _ (by omega)]
theorem isSt.putObj (h : isSt ca L M σ c) {c' : Int → Int} (hM : M1 (σ 0) = oStore σ c') (hf : ∀ x, x ≠ σ 0 → M1 x = M x) (hc : ∀ k, k ≠ 4 → k ≠ 5 → c' k = c k) : isSt ca L M1 σ c' := by
  have n := fun (j : Int) (q0 : 0 ≤ j) (q1 : j < 24) (q2 : j ≠ 0) => hf (σ j) (h.ne q0 q1 (by omega) (by omega) q2)
  refine ⟨h.1, hM, ?_, ?_, ?_, fun j j0 j1 => ?_, fun j j0 j1 => ?_⟩
  · rw [n 1 (by decide) (by decide) (by omega), h.set]; exact cI_ext (fun k k0 k1 => (hc _ (by omega) (by omega)).symm)
  · rw [n 2 (by decide) (by decide) (by omega), h.strs]
  · rw [n 3 (by decide) (by decide) (by omega), h.bks]
  · rw [n (4 + j) (by omega) (by omega) (by omega), h.bank j0 j1, cBank, cBank, hc _ (by omega) (by omega), hc _ (by omega) (by omega), hc _ (by omega) (by omega), hc _ (by omega) (by omega)]
  · rw [n (20 + j) (by omega) (by omega) (by omega), h.row j0 j1, cRow, cRow, hc _ (by omega) (by omega), hc _ (by omega) (by omega), hc _ (by omega) (by omega), hc _ (by omega) (by omega), hc _ (by omega) (by omega), hc _ (by omega) (by omega), hc _ (by omega) (by omega), hc _ (by omega) (by omega)]
theorem isSt.putSet (h : isSt ca L M σ c) {c' : Int → Int} (hM : M1 (σ 1) = cI ca 4 c') (hf : ∀ x, x ≠ σ 1 → M1 x = M x) (hc : ∀ k, ¬ (0 ≤ k ∧ k < 4) → c' k = c k) : isSt ca L M1 σ c' := by
  have n := fun (j : Int) (q0 : 0 ≤ j) (q1 : j < 24) (q2 : j ≠ 1) => hf (σ j) (h.ne q0 q1 (by omega) (by omega) q2)
  refine ⟨h.1, ?_, hM, ?_, ?_, fun j j0 j1 => ?_, fun j j0 j1 => ?_⟩
  · rw [n 0 (by decide) (by decide) (by omega), h.obj, oStore, oStore, hc 5 (by omega), hc 4 (by omega)]
  · rw [n 2 (by decide) (by decide) (by omega), h.strs]
  · rw [n 3 (by decide) (by decide) (by omega), h.bks]
  · rw [n (4 + j) (by omega) (by omega) (by omega), h.bank j0 j1, cBank, cBank, hc _ (by omega), hc _ (by omega), hc _ (by omega), hc _ (by omega)]
  · rw [n (20 + j) (by omega) (by omega) (by omega), h.row j0 j1, cRow, cRow, hc _ (by omega), hc _ (by omega), hc _ (by omega), hc _ (by omega), hc _ (by omega), hc _ (by omega), hc _ (by omega), hc _ (by omega)]
/-- the cells of a method's own: a store changes nothing outside itself -/
def outS (σ : Int → Nat) (M M1 : Mem) : Prop := ∀ x, (∀ i, 0 ≤ i → i < 24 → x ≠ σ i) → M1 x = M x
theorem outS.refl (σ : Int → Nat) (M : Mem) : outS σ M M := fun _ _ => rfl
theorem outS.trans {M2 : Mem} (h : outS σ M M1) (h2 : outS σ M1 M2) : outS σ M M2 := fun x hx => (h2 x hx).trans (h x hx)
theorem outS.one {i : Int} (h0 : 0 ≤ i) (h1 : i < 24) (hf : ∀ x, x ≠ σ i → M1 x = M x) : outS σ M M1 := fun x hx => hf x (hx i h0 h1)
theorem setB_cell {c c' : Int → Int} {b : Int} {f : Int → Int} (h : ∀ k, 0 ≤ k → k < 4 → c' (6 + 4 * b + k) = f k) : oBank f = cBank c' b := by
  have h0 := h 0 (by omega) (by omega)
  rw [Int.add_zero] at h0
  rw [cBank, h0, h 1 (by omega) (by omega), h 2 (by omega) (by omega), h 3 (by omega) (by omega)]
theorem setR_cell {c' : Int → Int} {i : Int} {f : Int → Int} (h : ∀ k, 0 ≤ k → k < 8 → c' (70 + 10 * i + k) = f k) : oRow f = cRow c' i := by
  have h0 := h 0 (by omega) (by omega)
  rw [Int.add_zero] at h0
  rw [cRow, h0, h 1 (by omega) (by omega), h 2 (by omega) (by omega), h 3 (by omega) (by omega), h 4 (by omega) (by omega), h 5 (by omega) (by omega), h 6 (by omega) (by omega), h 7 (by omega) (by omega)]
def setB (c : Int → Int) (b : Int) (f : Int → Int) : Int → Int := fun k => if 6 + 4 * b ≤ k ∧ k < 6 + 4 * b + 4 then f (k - (6 + 4 * b)) else c k
def setR (c : Int → Int) (i : Int) (f : Int → Int) : Int → Int := fun k => if 70 + 10 * i ≤ k ∧ k < 70 + 10 * i + 8 then f (k - (70 + 10 * i)) else c k
theorem setB_in (c : Int → Int) (b : Int) (f : Int → Int) {k : Int} (h0 : 0 ≤ k) (h1 : k < 4) : setB c b f (6 + 4 * b + k) = f k := by
  rw [setB, if_pos (by omega), show 6 + 4 * b + k - (6 + 4 * b) = k by omega]
theorem setR_in (c : Int → Int) (i : Int) (f : Int → Int) {k : Int} (h0 : 0 ≤ k) (h1 : k < 8) : setR c i f (70 + 10 * i + k) = f k := by
  rw [setR, if_pos (by omega), show 70 + 10 * i + k - (70 + 10 * i) = k by omega]
theorem setB_out (c : Int → Int) (b : Int) (f : Int → Int) {k : Int} (h : ¬ (6 + 4 * b ≤ k ∧ k < 6 + 4 * b + 4)) : setB c b f k = c k := if_neg h
theorem setR_out (c : Int → Int) (i : Int) (f : Int → Int) {k : Int} (h : ¬ (70 + 10 * i ≤ k ∧ k < 70 + 10 * i + 8)) : setR c i f k = c k := if_neg h
theorem isSt.toB (h : isSt ca L M σ c) {b : Int} (h0 : 0 ≤ b) (h1 : b < 16) {f : Int → Int} (hM : M1 (σ (4 + b)) = oBank f) (hf : ∀ x, x ≠ σ (4 + b) → M1 x = M x) : isSt ca L M1 σ (setB c b f) :=
  h.putBank h0 h1 (hM.trans (setB_cell (c := c) (fun k k0 k1 => setB_in c b f k0 k1))) hf (fun k hk => setB_out c b f hk)
theorem isSt.toR (h : isSt ca L M σ c) {i : Int} (h0 : 0 ≤ i) (h1 : i < 4) {f : Int → Int} (hM : M1 (σ (20 + i)) = oRow f) (hf : ∀ x, x ≠ σ (20 + i) → M1 x = M x) : isSt ca L M1 σ (setR c i f) :=
  h.putRow h0 h1 (hM.trans (setR_cell (fun k k0 k1 => setR_in c i f k0 k1))) hf (fun k hk => setR_out c i f hk)
end Store
