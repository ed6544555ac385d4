/-! ===== counting bits: Integer.bitCount against the reference's loop ===== -/
def nus (x k : Nat) : Nat := x >>> k
def nb (x : Nat) : Nat :=
  let x1 := x - (x >>> 1 &&& 1431655765)
  let x2 := (x1 &&& 858993459) + (x1 >>> 2 &&& 858993459)
  let x3 := (x2 + x2 >>> 4) &&& 252645135
  let x4 := x3 + x3 >>> 8
  let x5 := x4 + x4 >>> 16
  x5 &&& 63
def nm (x : Nat) : Nat → Nat
  | 0 => 0
  | k + 1 => nm x k + (x >>> k &&& 1)
def nall (a : Nat) : Nat → Bool
  | 0 => true
  | k + 1 => nall a k && (nb (256 * a + k) == nm (256 * a + k) 16)
def nal2 (a : Nat) : Nat → Bool
  | 0 => true
  | k + 1 => nal2 a k && nall (8 * a + k) 256
theorem nal_0 : nal2 0 8 = true := by decide +kernel
theorem nal_1 : nal2 1 8 = true := by decide +kernel
theorem nal_2 : nal2 2 8 = true := by decide +kernel
theorem nal_3 : nal2 3 8 = true := by decide +kernel
theorem nal_4 : nal2 4 8 = true := by decide +kernel
theorem nal_5 : nal2 5 8 = true := by decide +kernel
theorem nal_6 : nal2 6 8 = true := by decide +kernel
theorem nal_7 : nal2 7 8 = true := by decide +kernel
theorem nal_8 : nal2 8 8 = true := by decide +kernel
theorem nal_9 : nal2 9 8 = true := by decide +kernel
theorem nal_10 : nal2 10 8 = true := by decide +kernel
theorem nal_11 : nal2 11 8 = true := by decide +kernel
theorem nal_12 : nal2 12 8 = true := by decide +kernel
theorem nal_13 : nal2 13 8 = true := by decide +kernel
theorem nal_14 : nal2 14 8 = true := by decide +kernel
theorem nal_15 : nal2 15 8 = true := by decide +kernel
theorem nal_16 : nal2 16 8 = true := by decide +kernel
theorem nal_17 : nal2 17 8 = true := by decide +kernel
theorem nal_18 : nal2 18 8 = true := by decide +kernel
theorem nal_19 : nal2 19 8 = true := by decide +kernel
theorem nal_20 : nal2 20 8 = true := by decide +kernel
theorem nal_21 : nal2 21 8 = true := by decide +kernel
theorem nal_22 : nal2 22 8 = true := by decide +kernel
theorem nal_23 : nal2 23 8 = true := by decide +kernel
theorem nal_24 : nal2 24 8 = true := by decide +kernel
theorem nal_25 : nal2 25 8 = true := by decide +kernel
theorem nal_26 : nal2 26 8 = true := by decide +kernel
theorem nal_27 : nal2 27 8 = true := by decide +kernel
theorem nal_28 : nal2 28 8 = true := by decide +kernel
theorem nal_29 : nal2 29 8 = true := by decide +kernel
theorem nal_30 : nal2 30 8 = true := by decide +kernel
theorem nal_31 : nal2 31 8 = true := by decide +kernel
theorem nal2_at {a : Nat} : ∀ {k : Nat}, nal2 a k = true → ∀ j, j < k → nall (8 * a + j) 256 = true
  | 0, _, j, hj => absurd hj (by omega)
  | k + 1, h, j, hj => by
    simp only [nal2, Bool.and_eq_true] at h
    by_cases e : j = k
    · subst e; exact h.2
    · exact nal2_at h.1 j (by omega)
theorem nall_at {a : Nat} : ∀ {k : Nat}, nall a k = true → ∀ j, j < k → nb (256 * a + j) = nm (256 * a + j) 16
  | 0, _, j, hj => absurd hj (by omega)
  | k + 1, h, j, hj => by
    simp only [nall, Bool.and_eq_true, beq_iff_eq] at h
    by_cases e : j = k
    · subst e; exact h.2
    · exact nall_at h.1 j (by omega)
theorem nal_any : ∀ a, a < 32 → nal2 a 8 = true := by
  intro a h
  rcases (by omega : a = 0 ∨ a = 1 ∨ a = 2 ∨ a = 3 ∨ a = 4 ∨ a = 5 ∨ a = 6 ∨ a = 7 ∨ a = 8 ∨ a = 9 ∨ a = 10 ∨ a = 11 ∨ a = 12 ∨ a = 13 ∨ a = 14 ∨ a = 15 ∨ a = 16 ∨ a = 17 ∨ a = 18 ∨ a = 19 ∨ a = 20 ∨ a = 21 ∨ a = 22 ∨ a = 23 ∨ a = 24 ∨ a = 25 ∨ a = 26 ∨ a = 27 ∨ a = 28 ∨ a = 29 ∨ a = 30 ∨ a = 31) with h | h | h | h | h | h | h | h | h | h | h | h | h | h | h | h | h | h | h | h | h | h | h | h | h | h | h | h | h | h | h | h
  · rw [h]; exact nal_0
  · rw [h]; exact nal_1
  · rw [h]; exact nal_2
  · rw [h]; exact nal_3
  · rw [h]; exact nal_4
  · rw [h]; exact nal_5
  · rw [h]; exact nal_6
  · rw [h]; exact nal_7
  · rw [h]; exact nal_8
  · rw [h]; exact nal_9
  · rw [h]; exact nal_10
  · rw [h]; exact nal_11
  · rw [h]; exact nal_12
  · rw [h]; exact nal_13
  · rw [h]; exact nal_14
  · rw [h]; exact nal_15
  · rw [h]; exact nal_16
  · rw [h]; exact nal_17
  · rw [h]; exact nal_18
  · rw [h]; exact nal_19
  · rw [h]; exact nal_20
  · rw [h]; exact nal_21
  · rw [h]; exact nal_22
  · rw [h]; exact nal_23
  · rw [h]; exact nal_24
  · rw [h]; exact nal_25
  · rw [h]; exact nal_26
  · rw [h]; exact nal_27
  · rw [h]; exact nal_28
  · rw [h]; exact nal_29
  · rw [h]; exact nal_30
  · rw [h]; exact nal_31
theorem nb_nm {x : Nat} (h : x < 65536) : nb x = nm x 16 := by
  have h1 := nal2_at (nal_any (x / 2048) (by omega)) (x / 256 % 8) (by omega)
  have h2 := nall_at h1 (x % 256) (by omega)
  rwa [show 256 * (8 * (x / 2048) + x / 256 % 8) + x % 256 = x by omega] at h2
