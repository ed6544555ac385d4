/-! the class: a stream alone goes from word to word; the reference goes from cycle to cycle -/
def loM (f : Int → Int) (p a : Int) : Int := if p < f (6 + 4 * bkG f a) then f (6 + 4 * bkG f a) else p
def loF (c : Int → Int) (v a0 : Int) : Nat → (Int → Int) × Int × Int
  | 0 => (c, 0, a0)
  | k + 1 => (up (loF c v a0 k).1 (6 + 4 * bkG (loF c v a0 k).1 (loF c v a0 k).2.2) (loM (loF c v a0 k).1 (loF c v a0 k).2.1 (loF c v a0 k).2.2 + (loF c v a0 k).1 1), loM (loF c v a0 k).1 (loF c v a0 k).2.1 (loF c v a0 k).2.2 + 1, ((loF c v a0 k).2.2 + v) % 4096)
def loR (v : Int) : Nat → (Int → Int) → Int → Int → Int
  | 0, _, p, _ => p
  | l + 1, f, p, a => loR v l (up f (6 + 4 * bkG f a) (loM f p a + f 1)) (loM f p a + 1) ((a + v) % 4096)
theorem lo_acc (c : Int → Int) (v a0 : Int) : ∀ k j : Nat, loR v j (loF c v a0 k).1 (loF c v a0 k).2.1 (loF c v a0 k).2.2 = loR v (k + j) c 0 a0
  | 0, j => by rw [Nat.zero_add]; rfl
  | k + 1, j => by
    rw [show k + 1 + j = k + (j + 1) by omega, ← lo_acc c v a0 k (j + 1)]
    rfl
theorem lo_end (c : Int → Int) (v a0 : Int) (k : Nat) : (loF c v a0 k).2.1 = loR v k c 0 a0 := by
  rw [← Nat.add_zero k, ← lo_acc c v a0 k 0]; rfl
theorem one_cyc {g : Int → Int} (h5 : g 5 = 1) : cycG g = up (askC g 0) 4 (g 4 + 1) := by
  have hf : fstG g = 0 := by unfold fstG; rw [h5]; split <;> omega
  unfold cycG
  rw [hf, h5]
  rfl
theorem one_wl {g : Int → Int} (h5 : g 5 = 1) : wlG g = g (70 + 10 * 0 + 3) := by
  unfold wlG
  rw [h5]
  show 0 + _ = _
  rw [Int.zero_add]; rfl
theorem ro_zero {g : Int → Int} (h : ¬ wlG g > 0) (N : Nat) : roC N g = 0 := by
  cases N with
  | zero => rfl
  | succ n => rw [roC, if_neg h]
theorem lo_sim (v : Int) : ∀ (l w N : Nat) (g f : Int → Int), Inv g → g 5 = 1 → g (70 + 10 * 0 + 3) = l → g (70 + 10 * 0 + 1) = v → (∀ b, 0 ≤ b → b < 16 → f (6 + 4 * b) = g (6 + 4 * b)) → f 0 = g 0 → f 1 = g 1 → f 2 = g 2 →
    ((w = 0 ∧ g (6 + 4 * bkG g (g (70 + 10 * 0 + 4))) ≤ g 4) ∨ g (6 + 4 * bkG g (g (70 + 10 * 0 + 4))) = g 4 + w) → 13 * l + w ≤ N → g 4 + N ≤ 1000000 → roC N g + g 4 = loR v l f (g 4) (g (70 + 10 * 0 + 4)) := by
  intro l
  induction l with
  | zero =>
    intro w N g f hI h5 hl hv hB f0 f1 f2 hw hN h4
    rw [ro_zero (by rw [one_wl h5, hl]; decide), loR]; omega
  | succ l ihl =>
    intro w
    induction w with
    | zero =>
      intro N g f hI h5 hl hv hB f0 f1 f2 hw hN h4
      have hfree : ¬ g (6 + 4 * bkG g (g (70 + 10 * 0 + 4))) > g 4 := by omega
      obtain ⟨n, rfl⟩ : ∃ n, N = n + 1 := ⟨N - 1, by omega⟩
      have hbk := bkG_rng hI.1 (g (70 + 10 * 0 + 4))
      have co := cyc_ok hI (by omega)
      have hc := one_cyc h5
      have ha : askC g 0 = asksG g 0 := by rw [askC, if_pos (by omega)]
      obtain ⟨d0, d1, d2, d3, d4, -⟩ := asks_done hI.1 (i := 0) (by decide) hfree
      have u := fun k (hk : k ≠ 4) => (congrFun hc k).trans ((up_ne _ _ hk).trans (congrFun ha k))
      have hbf : bkG f (g (70 + 10 * 0 + 4)) = bkG g (g (70 + 10 * 0 + 4)) := bkG_eq f0 f2 _
      have hm : loM f (g 4) (g (70 + 10 * 0 + 4)) = g 4 := by
        unfold loM; rw [hbf, hB _ hbk.1 hbk.2.2, if_neg (by omega)]
      have hb2 := bkG_rng co.1.1 (cycG g (70 + 10 * 0 + 4))
      have hi2 := co.1.2.1 _ hb2.1 hb2.2.2
      have key := ihl (cycG g (6 + 4 * bkG (cycG g) (cycG g (70 + 10 * 0 + 4))) - cycG g 4).toNat n (cycG g) (up f (6 + 4 * bkG f (g (70 + 10 * 0 + 4))) (g 4 + f 1)) co.1 (by omega) (by rw [u _ (by decide), d3]; omega) (by rw [u _ (by decide), d1, hv]) (fun b b0 b1 => by
        rw [u _ (by omega), asks_free hI.1 (by decide) b0 b1, hbf]
        by_cases e : b = bkG g (g (70 + 10 * 0 + 4))
        · rw [if_pos ⟨e, hfree⟩, ← e, up_eq, f1]
        · rw [if_neg (fun h => e h.1), up_ne _ _ (by omega), hB b b0 b1]) (by rw [up_ne _ _ (by omega)]; omega) (by rw [up_ne _ _ (by omega)]; omega) (by rw [up_ne _ _ (by omega)]; omega) (by omega) (by omega) (by omega)
      have e4 : cycG g (70 + 10 * 0 + 4) = (g (70 + 10 * 0 + 4) + v) % 4096 := by rw [u _ (by decide), d4, hv]
      rw [roC, if_pos (by rw [one_wl h5]; omega), loR, hm]
      rw [co.2.1.2.2.2.2.1, e4] at key
      omega
    | succ w ihw =>
      intro N g f hI h5 hl hv hB f0 f1 f2 hw hN h4
      have hbusy : g (6 + 4 * bkG g (g (70 + 10 * 0 + 4))) > g 4 := by omega
      obtain ⟨n, rfl⟩ : ∃ n, N = n + 1 := ⟨N - 1, by omega⟩
      have hbk := bkG_rng hI.1 (g (70 + 10 * 0 + 4))
      have co := cyc_ok hI (by omega)
      have hc := one_cyc h5
      have ha : askC g 0 = asksG g 0 := by rw [askC, if_pos (by omega)]
      have d := fun k h0 h1 => asks_stall hI.1 (i := 0) (by decide) hbusy (k := k) h0 h1
      have u := fun k (hk : k ≠ 4) => (congrFun hc k).trans ((up_ne _ _ hk).trans (congrFun ha k))
      have hbf : bkG f (g (70 + 10 * 0 + 4)) = bkG g (g (70 + 10 * 0 + 4)) := bkG_eq f0 f2 _
      have fr : ∀ b, 0 ≤ b → b < 16 → cycG g (6 + 4 * b) = g (6 + 4 * b) := fun b b0 b1 => by
        rw [u _ (by omega), asks_free hI.1 (by decide) b0 b1, if_neg (fun h => h.2 hbusy)]
      have e4 : cycG g (70 + 10 * 0 + 4) = g (70 + 10 * 0 + 4) := by rw [u _ (by decide), d 4 (by decide) (by decide)]
      have eb : bkG (cycG g) (cycG g (70 + 10 * 0 + 4)) = bkG g (g (70 + 10 * 0 + 4)) := by rw [e4]; exact bkG_eq co.2.1.1 co.2.1.2.2.1 _
      have key := ihw n (cycG g) f co.1 (by omega) (by rw [u _ (by decide), d 3 (by decide) (by decide), hl]) (by rw [u _ (by decide), d 1 (by decide) (by decide), hv]) (fun b b0 b1 => by rw [fr b b0 b1, hB b b0 b1]) (by omega) (by omega) (by omega) (Or.inr (by rw [eb, fr _ hbk.1 hbk.2.2]; omega)) (by omega) (by omega)
      have hm : loM f (cycG g 4) (g (70 + 10 * 0 + 4)) = loM f (g 4) (g (70 + 10 * 0 + 4)) := by
        unfold loM
        rw [hbf, hB _ hbk.1 hbk.2.2]
        rw [show (if g 4 < g (6 + 4 * bkG g (g (70 + 10 * 0 + 4))) then g (6 + 4 * bkG g (g (70 + 10 * 0 + 4))) else g 4) = g (6 + 4 * bkG g (g (70 + 10 * 0 + 4))) from if_pos (by omega)]
        split <;> omega
      rw [roC, if_pos (by rw [one_wl h5]; omega), loR]
      rw [e4, loR, hm] at key
      omega
theorem lo_all {g c : Int → Int} (hI : Inv g) {i v : Int} (h0 : 0 ≤ i) (h1 : i < g 5) (hv : 0 ≤ v ∧ v < 1024) (c0 : c 0 = g 0) (c1 : c 1 = g 1) (c2 : c 2 = g 2) (hB : ∀ b, 0 ≤ b → b < 16 → c (6 + 4 * b) = 0) : loR v (g (70 + 10 * i + 2)).toNat c 0 (g (70 + 10 * i)) = cwC g i v := by
  obtain ⟨k1, k2, k3⟩ := cw_ok hI h0 h1 hv
  have hJ := bga_inv k1 k2
  have l := fun (k : Int) (h : k < 6) (h4 : k ≠ 4) => bga_low (g := cwG g i v) h h4
  have lk : ∀ k, k < 70 → k ≠ 5 → cwG g i v k = g k := fun k hk h5 => by
    rw [cwG, up_ne _ _ h5, up_ne _ _ (by omega), cmG, if_neg (by omega)]
  obtain ⟨a0, a1, a2, a3⟩ := bga_row (cwG g i v) (j := 0) (by decide)
  obtain ⟨b3, b4, -⟩ := a3 (by omega)
  have e0 : cwG g i v (70 + 10 * 0) = g (70 + 10 * i) := by
    rw [cwG, up_ne _ _ (by omega), up_ne _ _ (by omega), cmG, if_pos (by omega), Int.sub_self, Int.add_zero]
  have e1 : cwG g i v (70 + 10 * 0 + 1) = v := by rw [cwG, up_ne _ _ (by omega), up_eq]
  have e2 : cwG g i v (70 + 10 * 0 + 2) = g (70 + 10 * i + 2) := by
    rw [cwG, up_ne _ _ (by omega), up_ne _ _ (by omega), cmG, if_pos (by omega), show (70 + 10 * 0 + 2 : Int) - (70 + 10 * 0) = 2 by omega]
  have hr := (hI.2.2 i h0 h1).2.2.1
  have hbk := bkG_rng hJ.1 (bgaG (cwG g i v) (70 + 10 * 0 + 4))
  have key := lo_sim v (g (70 + 10 * i + 2)).toNat 0 20000 (bgaG (cwG g i v)) c hJ (by rw [l 5 (by decide) (by decide), k3]) (by rw [b3, e2]; omega) (by rw [a1, e1]) (fun b b0 b1 => by rw [hB b b0 b1, bga_bank _ (by omega) (by omega)]) (by rw [l 0 (by decide) (by decide), lk 0 (by decide) (by decide), c0]) (by rw [l 1 (by decide) (by decide), lk 1 (by decide) (by decide), c1]) (by rw [l 2 (by decide) (by decide), lk 2 (by decide) (by decide), c2]) (Or.inl ⟨rfl, by rw [bga_bank _ (by omega) (by omega), bga_cyc]; decide⟩) (by omega) (by rw [bga_cyc]; decide)
  rw [bga_cyc, b4, e0, Int.add_zero] at key
  rw [← key]; rfl
theorem isSt.putFree {ca : Nat → ClassId} {L : List Nat} {M M1 : Mem} {σ : Int → Nat} {c : Int → Int} (h : isSt ca L M σ c) {b v : Int} (h0 : 0 ≤ b) (h1 : b < 16) (hM : M1 (σ (4 + b)) = .inr (0, [.int (iI v), .int (iI (c (6 + 4 * b + 1))), .int (iI (c (6 + 4 * b + 2))), .int (iI (c (6 + 4 * b + 3)))])) (hf : ∀ x, x ≠ σ (4 + b) → M1 x = M x) : isSt ca L M1 σ (up c (6 + 4 * b) v) :=
  h.putBank h0 h1 (by rw [hM, cBank, up_eq, up_ne _ _ (by omega), up_ne _ _ (by omega), up_ne _ _ (by omega)]) hf (fun k hk => up_ne _ _ (by omega))
theorem loF_low (c : Int → Int) (v a0 : Int) (hS : 2 ≤ c 0 ∧ c 0 ≤ 16) {j : Int} (hj : j < 6) (hb : ∀ k : Nat, 0 ≤ bkG (loF c v a0 k).1 (loF c v a0 k).2.2) : ∀ k : Nat, (loF c v a0 k).1 j = c j
  | 0 => rfl
  | k + 1 => by
    have := hb k
    simp only [loF]
    rw [up_ne _ _ (by omega), loF_low c v a0 hS hj hb k]
theorem bkG_rng3 {g : Int → Int} (h0 : 2 ≤ g 0) (h1 : g 0 ≤ 16) (a : Int) : 0 ≤ bkG g a ∧ bkG g a < g 0 ∧ bkG g a < 16 := by
  have h3 := tGP_rng h0 h1
  have e1 := Int.emod_nonneg a (by omega : g 0 ≠ 0)
  have e2 := Int.emod_lt_of_pos a (by omega : 0 < g 0)
  have e3 := Int.emod_nonneg (a + a / g 0) (by omega : g 0 ≠ 0)
  have e4 := Int.emod_lt_of_pos (a + a / g 0) (by omega : 0 < g 0)
  have e5 := Int.emod_nonneg a (by omega : tGP (g 0) ≠ 0)
  have e6 := Int.emod_lt_of_pos a (by omega : 0 < tGP (g 0))
  unfold bkG
  split
  · omega
  · split <;> omega
