/-! the class: a stream alone goes from word to word; the reference goes from cycle to cycle -/
def loM (f : Int → Int) (p a : Int) : Int := if p < f (6 + 4 * bkG f a) then f (6 + 4 * bkG f a) else p
def loF (c : Int → Int) (v a0 : Int) : Nat → (Int → Int) × Int × Int
  | 0 => (c, 0, a0)
  | k + 1 => (up (loF c v a0 k).1 (6 + 4 * bkG (loF c v a0 k).1 (loF c v a0 k).2.2) (loM (loF c v a0 k).1 (loF c v a0 k).2.1 (loF c v a0 k).2.2 + (loF c v a0 k).1 1), loM (loF c v a0 k).1 (loF c v a0 k).2.1 (loF c v a0 k).2.2 + 1, ((loF c v a0 k).2.2 + v) % 4096)
def loR (v : Int) : Nat → (Int → Int) → Int → Int → Int
  | 0, _, p, _ => p
  | l + 1, f, p, a => loR v l (up f (6 + 4 * bkG f a) (loM f p a + f 1)) (loM f p a + 1) ((a + v) % 4096)
theorem lo_acc (c : Int → Int) (v a0 : Int) : ∀ k j : Nat, loR v j (loF c v a0 k).1 (loF c v a0 k).2.1 (loF c v a0 k).2.2 = loR v (k + j) c 0 a0
  | 0, j => by rw [Nat.zero_add]; rfl
  | k + 1, j => by
    rw [show k + 1 + j = k + (j + 1) by omega, ← lo_acc c v a0 k (j + 1)]
    rfl
theorem lo_end (c : Int → Int) (v a0 : Int) (k : Nat) : (loF c v a0 k).2.1 = loR v k c 0 a0 := by
  rw [← Nat.add_zero k, ← lo_acc c v a0 k 0]; rfl
theorem one_cyc {g : Int → Int} (h5 : g 5 = 1) : cycG g = up (askC g 0) 4 (g 4 + 1) := by
  have hf : fstG g = 0 := by unfold fstG; rw [h5]; split <;> omega
  unfold cycG
  rw [hf, h5]
  rfl
theorem one_wl {g : Int → Int} (h5 : g 5 = 1) : wlG g = g (70 + 10 * 0 + 3) := by
  unfold wlG
  rw [h5]
  show 0 + _ = _
  rw [Int.zero_add]; rfl
theorem ro_zero {g : Int → Int} (h : ¬ wlG g > 0) (N : Nat) : roC N g = 0 := by
  cases N with
  | zero => rfl
  | succ n => rw [roC, if_neg h]
theorem lo_sim (v : Int) : ∀ (l w N : Nat) (g f : Int → Int), Inv g → g 5 = 1 → g (70 + 10 * 0 + 3) = l → g (70 + 10 * 0 + 1) = v → (∀ b, 0 ≤ b → b < 16 → f (6 + 4 * b) = g (6 + 4 * b)) → f 0 = g 0 → f 1 = g 1 → f 2 = g 2 →
    ((w = 0 ∧ g (6 + 4 * bkG g (g (70 + 10 * 0 + 4))) ≤ g 4) ∨ g (6 + 4 * bkG g (g (70 + 10 * 0 + 4))) = g 4 + w) → 13 * l + w ≤ N → g 4 + N ≤ 1000000 → roC N g + g 4 = loR v l f (g 4) (g (70 + 10 * 0 + 4)) := by
  intro l
  induction l with
  | zero =>
    intro w N g f hI h5 hl hv hB f0 f1 f2 hw hN h4
    rw [ro_zero (by rw [one_wl h5, hl]; decide), loR]; omega
  | succ l ihl =>
    intro w
    induction w with
    | zero =>
      intro N g f hI h5 hl hv hB f0 f1 f2 hw hN h4
      have hfree : ¬ g (6 + 4 * bkG g (g (70 + 10 * 0 + 4))) > g 4 := by omega
      obtain ⟨n, rfl⟩ : ∃ n, N = n + 1 := ⟨N - 1, by omega⟩
      have hbk := bkG_rng hI.1 (g (70 + 10 * 0 + 4))
      have co := cyc_ok hI (by omega)
      have hc := one_cyc h5
      have ha : askC g 0 = asksG g 0 := by rw [askC, if_pos (by omega)]
      obtain ⟨d0, d1, d2, d3, d4, -⟩ := asks_done hI.1 (i := 0) (by decide) hfree
      have u := fun k (hk : k ≠ 4) => (congrFun hc k).trans ((up_ne _ _ hk).trans (congrFun ha k))
      have hbf : bkG f (g (70 + 10 * 0 + 4)) = bkG g (g (70 + 10 * 0 + 4)) := bkG_eq f0 f2 _
      have hm : loM f (g 4) (g (70 + 10 * 0 + 4)) = g 4 := by
        unfold loM; rw [hbf, hB _ hbk.1 hbk.2.2, if_neg (by omega)]
      have hb2 := bkG_rng co.1.1 (cycG g (70 + 10 * 0 + 4))
      have hi2 := co.1.2.1 _ hb2.1 hb2.2.2
      have key := ihl (cycG g (6 + 4 * bkG (cycG g) (cycG g (70 + 10 * 0 + 4))) - cycG g 4).toNat n (cycG g) (up f (6 + 4 * bkG f (g (70 + 10 * 0 + 4))) (g 4 + f 1)) co.1 (by omega) (by rw [u _ (by decide), d3]; omega) (by rw [u _ (by decide), d1, hv]) (fun b b0 b1 => by
        rw [u _ (by omega), asks_free hI.1 (by decide) b0 b1, hbf]
        by_cases e : b = bkG g (g (70 + 10 * 0 + 4))
        · rw [if_pos ⟨e, hfree⟩, ← e, up_eq, f1]
        · rw [if_neg (fun h => e h.1), up_ne _ _ (by omega), hB b b0 b1]) (by rw [up_ne _ _ (by omega)]; omega) (by rw [up_ne _ _ (by omega)]; omega) (by rw [up_ne _ _ (by omega)]; omega) (by omega) (by omega) (by omega)
      have e4 : cycG g (70 + 10 * 0 + 4) = (g (70 + 10 * 0 + 4) + v) % 4096 := by rw [u _ (by decide), d4, hv]
      rw [roC, if_pos (by rw [one_wl h5]; omega), loR, hm]
      rw [co.2.1.2.2.2.2.1, e4] at key
      omega
    | succ w ihw =>
      intro N g f hI h5 hl hv hB f0 f1 f2 hw hN h4
      have hbusy : g (6 + 4 * bkG g (g (70 + 10 * 0 + 4))) > g 4 := by omega
      obtain ⟨n, rfl⟩ : ∃ n, N = n + 1 := ⟨N - 1, by omega⟩
      have hbk := bkG_rng hI.1 (g (70 + 10 * 0 + 4))
      have co := cyc_ok hI (by omega)
      have hc := one_cyc h5
      have ha : askC g 0 = asksG g 0 := by rw [askC, if_pos (by omega)]
      have d := fun k h0 h1 => asks_stall hI.1 (i := 0) (by decide) hbusy (k := k) h0 h1
      have u := fun k (hk : k ≠ 4) => (congrFun hc k).trans ((up_ne _ _ hk).trans (congrFun ha k))
      have hbf : bkG f (g (70 + 10 * 0 + 4)) = bkG g (g (70 + 10 * 0 + 4)) := bkG_eq f0 f2 _
      have fr : ∀ b, 0 ≤ b → b < 16 → cycG g (6 + 4 * b) = g (6 + 4 * b) := fun b b0 b1 => by
        rw [u _ (by omega), asks_free hI.1 (by decide) b0 b1, if_neg (fun h => h.2 hbusy)]
      have e4 : cycG g (70 + 10 * 0 + 4) = g (70 + 10 * 0 + 4) := by rw [u _ (by decide), d 4 (by decide) (by decide)]
      have eb : bkG (cycG g) (cycG g (70 + 10 * 0 + 4)) = bkG g (g (70 + 10 * 0 + 4)) := by rw [e4]; exact bkG_eq co.2.1.1 co.2.1.2.2.1 _
      have key := ihw n (cycG g) f co.1 (by omega) (by rw [u _ (by decide), d 3 (by decide) (by decide), hl]) (by rw [u _ (by decide), d 1 (by decide) (by decide), hv]) (fun b b0 b1 => by rw [fr b b0 b1, hB b b0 b1]) (by omega) (by omega) (by omega) (Or.inr (by rw [eb, fr _ hbk.1 hbk.2.2]; omega)) (by omega) (by omega)
      have hm : loM f (cycG g 4) (g (70 + 10 * 0 + 4)) = loM f (g 4) (g (70 + 10 * 0 + 4)) := by
        unfold loM
        rw [hbf, hB _ hbk.1 hbk.2.2]
        rw [show (if g 4 < g (6 + 4 * bkG g (g (70 + 10 * 0 + 4))) then g (6 + 4 * bkG g (g (70 + 10 * 0 + 4))) else g 4) = g (6 + 4 * bkG g (g (70 + 10 * 0 + 4))) from if_pos (by omega)]
        split <;> omega
      rw [roC, if_pos (by rw [one_wl h5]; omega), loR]
      rw [e4, loR, hm] at key
      omega
theorem lo_all {g c : Int → Int} (hI : Inv g) {i v : Int} (h0 : 0 ≤ i) (h1 : i < g 5) (hv : 0 ≤ v ∧ v < 1024) (c0 : c 0 = g 0) (c1 : c 1 = g 1) (c2 : c 2 = g 2) (hB : ∀ b, 0 ≤ b → b < 16 → c (6 + 4 * b) = 0) : loR v (g (70 + 10 * i + 2)).toNat c 0 (g (70 + 10 * i)) = cwC g i v := by
  obtain ⟨k1, k2, k3⟩ := cw_ok hI h0 h1 hv
  have hJ := bga_inv k1 k2
  have l := fun (k : Int) (h : k < 6) (h4 : k ≠ 4) => bga_low (g := cwG g i v) h h4
  have lk : ∀ k, k < 70 → k ≠ 5 → cwG g i v k = g k := fun k hk h5 => by
    rw [cwG, up_ne _ _ h5, up_ne _ _ (by omega), cmG, if_neg (by omega)]
  obtain ⟨a0, a1, a2, a3⟩ := bga_row (cwG g i v) (j := 0) (by decide)
  obtain ⟨b3, b4, -⟩ := a3 (by omega)
  have e0 : cwG g i v (70 + 10 * 0) = g (70 + 10 * i) := by
    rw [cwG, up_ne _ _ (by omega), up_ne _ _ (by omega), cmG, if_pos (by omega), Int.sub_self, Int.add_zero]
  have e1 : cwG g i v (70 + 10 * 0 + 1) = v := by rw [cwG, up_ne _ _ (by omega), up_eq]
  have e2 : cwG g i v (70 + 10 * 0 + 2) = g (70 + 10 * i + 2) := by
    rw [cwG, up_ne _ _ (by omega), up_ne _ _ (by omega), cmG, if_pos (by omega), show (70 + 10 * 0 + 2 : Int) - (70 + 10 * 0) = 2 by omega]
  have hr := (hI.2.2 i h0 h1).2.2.1
  have hbk := bkG_rng hJ.1 (bgaG (cwG g i v) (70 + 10 * 0 + 4))
  have key := lo_sim v (g (70 + 10 * i + 2)).toNat 0 20000 (bgaG (cwG g i v)) c hJ (by rw [l 5 (by decide) (by decide), k3]) (by rw [b3, e2]; omega) (by rw [a1, e1]) (fun b b0 b1 => by rw [hB b b0 b1, bga_bank _ (by omega) (by omega)]) (by rw [l 0 (by decide) (by decide), lk 0 (by decide) (by decide), c0]) (by rw [l 1 (by decide) (by decide), lk 1 (by decide) (by decide), c1]) (by rw [l 2 (by decide) (by decide), lk 2 (by decide) (by decide), c2]) (Or.inl ⟨rfl, by rw [bga_bank _ (by omega) (by omega), bga_cyc]; decide⟩) (by omega) (by rw [bga_cyc]; decide)
  rw [bga_cyc, b4, e0, Int.add_zero] at key
  rw [← key]; rfl
theorem isSt.putFree {ca : Nat → ClassId} {L : List Nat} {M M1 : Mem} {σ : Int → Nat} {c : Int → Int} (h : isSt ca L M σ c) {b v : Int} (h0 : 0 ≤ b) (h1 : b < 16) (hM : M1 (σ (4 + b)) = .inr (0, [.int (iI v), .int (iI (c (6 + 4 * b + 1))), .int (iI (c (6 + 4 * b + 2))), .int (iI (c (6 + 4 * b + 3)))])) (hf : ∀ x, x ≠ σ (4 + b) → M1 x = M x) : isSt ca L M1 σ (up c (6 + 4 * b) v) :=
  h.putBank h0 h1 (by rw [hM, cBank, up_eq, up_ne _ _ (by omega), up_ne _ _ (by omega), up_ne _ _ (by omega)]) hf (fun k hk => up_ne _ _ (by omega))
theorem loF_low (c : Int → Int) (v a0 : Int) (hS : 2 ≤ c 0 ∧ c 0 ≤ 16) {j : Int} (hj : j < 6) (hb : ∀ k : Nat, 0 ≤ bkG (loF c v a0 k).1 (loF c v a0 k).2.2) : ∀ k : Nat, (loF c v a0 k).1 j = c j
  | 0 => rfl
  | k + 1 => by
    have := hb k
    simp only [loF]
    rw [up_ne _ _ (by omega), loF_low c v a0 hS hj hb k]
theorem bkG_rng3 {g : Int → Int} (h0 : 2 ≤ g 0) (h1 : g 0 ≤ 16) (a : Int) : 0 ≤ bkG g a ∧ bkG g a < g 0 ∧ bkG g a < 16 := by
  have h3 := tGP_rng h0 h1
  have e1 := Int.emod_nonneg a (by omega : g 0 ≠ 0)
  have e2 := Int.emod_lt_of_pos a (by omega : 0 < g 0)
  have e3 := Int.emod_nonneg (a + a / g 0) (by omega : g 0 ≠ 0)
  have e4 := Int.emod_lt_of_pos (a + a / g 0) (by omega : 0 < g 0)
  have e5 := Int.emod_nonneg a (by omega : tGP (g 0) ≠ 0)
  have e6 := Int.emod_lt_of_pos a (by omega : 0 < tGP (g 0))
  unfold bkG
  split
  · omega
  · split <;> omega
set_option maxRecDepth 100000 in
set_option maxHeartbeats 4000000 in
theorem ct_X3_lonelyCycles (l : Launch) (σ : Int → Nat) (c : Int → Int) (τ : Int → Nat) (d : Int → Int) (i v : Int) : Ct l yX3_lonelyCycles cX3_lonelyCycles 8 (some .int) 2 0 0 (fun ca av L M => av = [.ref (σ 0), .ref (τ (20 + i)), .int (iI v)] ∧ isSt ca L M σ c ∧ isSt ca L M τ d ∧ (∀ i j, 0 ≤ i → i < 24 → 0 ≤ j → j < 24 → σ i ≠ τ j) ∧ (2 ≤ c 0 ∧ c 0 ≤ 16) ∧ (1 ≤ c 1 ∧ c 1 ≤ 12) ∧ (0 ≤ c 2 ∧ c 2 ≤ 2) ∧ (∀ b, 0 ≤ b → b < 16 → c (6 + 4 * b) = 0) ∧ (0 ≤ i ∧ i < 4) ∧ (0 ≤ v ∧ v < 1024) ∧ (0 ≤ d (70 + 10 * i) ∧ d (70 + 10 * i) < 4096) ∧ (1 ≤ d (70 + 10 * i + 2) ∧ d (70 + 10 * i + 2) ≤ 200)) (fun ca av L M r L1 M1 => r = some (.int (iI (loR v (d (70 + 10 * i + 2)).toNat c 0 (d (70 + 10 * i))))) ∧ L = L1 ∧ (∃ c1, isSt ca L M1 σ c1) ∧ isSt ca L M1 τ d ∧ outS σ M M1) := by
  refine Ct_of (own := RX3) (by decide) rfl (by rintro _ _ _ _ ⟨rfl, _⟩; exact Nat.le_of_ble_eq_true rfl) ?_
  rintro p e s m args below meth cod D ca A av L M ⟨rfl, hs, ht, hd, h0, h1, h2, hB, hi, hv, hst, hln⟩ X hret hname
  refine g_lv (lv' := [(0, .ref (σ 0)), (1, .ref (τ (20 + i))), (2, .int (iI v))]) [0, 1, 2] rfl ?_
  generalize hQ : MQ below _ args s _ _ A = Q
  have hw_1 : M (τ (20 + i)) = .inr (4, [.int (iI (d (70 + 10 * i))), .int (iI (d (70 + 10 * i + 1))), .int (iI (d (70 + 10 * i + 2))), .int (iI (d (70 + 10 * i + 3))), .int (iI (d (70 + 10 * i + 4))), .int (iI (d (70 + 10 * i + 5))), .int (iI (d (70 + 10 * i + 6))), .int (iI (d (70 + 10 * i + 7)))]) := (ht.row (by omega) (by omega))
  have lp : ∀ (n : Nat) (k : Nat) (z a y : Int) (M1 : Mem) (f : Int → Int) (hy : y = k) (hk : y ≤ d (70 + 10 * i + 2)) (hf : f = (loF c v (d (70 + 10 * i)) k).1) (hz : z = (loF c v (d (70 + 10 * i)) k).2.1) (ha : a = (loF c v (d (70 + 10 * i)) k).2.2) (hs1 : isSt ca L M1 σ f) (ht1 : isSt ca L M1 τ d) (hfr : outS σ M M1) (hzb : 0 ≤ z ∧ z ≤ 13 * y) (har : 0 ≤ a ∧ a < 4096) (hfb : ∀ b, 0 ≤ b → b < 16 → 0 ≤ f (6 + 4 * b) ∧ f (6 + 4 * b) ≤ 13 * y + 12) (f0 : f 0 = c 0) (f1 : f 1 = c 1) (f2 : f 2 = c 2) (hm : d (70 + 10 * i + 2) - y < (n : Int)), G p l e (Rm 2 0 0) s m args below meth cod D A 8 Q 0 0 L M1 11 [(0, .ref (σ 0)), (1, .ref (τ (20 + i))), (2, .int (iI v)), (3, .int (iI z)), (4, .int (iI a)), (5, .int (iI y))] [] := by
    intro n
    induction n with
    | zero =>
      intro k z a y M1 f hy hk hf hz ha hs1 ht1 hfr hzb har hfb f0 f1 f2 hm
      exfalso; omega
    | succ n ih =>
      intro k z a y M1 f hy hk hf hz ha hs1 ht1 hfr hzb har hfb f0 f1 f2 hm
      have hw_2 : M1 (τ (20 + i)) = .inr (4, [.int (iI (d (70 + 10 * i))), .int (iI (d (70 + 10 * i + 1))), .int (iI (d (70 + 10 * i + 2))), .int (iI (d (70 + 10 * i + 3))), .int (iI (d (70 + 10 * i + 4))), .int (iI (d (70 + 10 * i + 5))), .int (iI (d (70 + 10 * i + 6))), .int (iI (d (70 + 10 * i + 7)))]) := (ht1.row (by omega) (by omega))
      obtain ⟨b, hb⟩ : ∃ x : Int, x = bkG f a := ⟨_, rfl⟩
      have hbk : 0 ≤ b ∧ b < f 0 ∧ b < 16 := by rw [hb]; exact bkG_rng3 (by omega) (by omega) a
      have hfb3 := hfb b hbk.1 hbk.2.2
      have hmr : 0 ≤ (if z < f (6 + 4 * b) then f (6 + 4 * b) else z) ∧ (if z < f (6 + 4 * b) then f (6 + 4 * b) else z) ≤ 13 * y + 12 := by split <;> omega
      refine g_iload X 5 rfl dX3_lonelyCycles_11 rfl ?_
      refine g_aload_n X 1 rfl dX3_lonelyCycles_13 rfl ?_
      refine g_getN X cl_X4 2 (by decide) wf_X3_69 rfl (ht1.mem (by omega) (by omega)) hw_2 rfl dX3_lonelyCycles_14 rfl ?_
      refine g_icmp_ge X ⟨by omega, by omega⟩ ⟨by omega, by omega⟩ (tgt := 79) dX3_lonelyCycles_17 (by decide) rfl (fun h_3 => ?_) (fun h_3 => ?_)
      · refine g_iload_n X 3 rfl dX3_lonelyCycles_79 rfl ?_
        subst hQ
        exact g_iret X hret ⟨Nat.le_of_ble_eq_true rfl, Nat.le_of_ble_eq_true rfl⟩ dX3_lonelyCycles_80 ⟨by rw [hz, lo_end, show (d (70 + 10 * i + 2)).toNat = k from by omega], rfl, ⟨f, hs1⟩, ht1, hfr⟩
      · refine g_aload_n X 0 rfl dX3_lonelyCycles_20 rfl ?_
        refine g_get X cl_X3 2 (by decide) wf_X3_23 rfl (hs1.mem (i := 0) (by decide) (by decide)) hs1.obj rfl dX3_lonelyCycles_21 rfl ?_
        refine g_aload_n X 0 rfl dX3_lonelyCycles_24 rfl ?_
        refine g_iload X 4 rfl dX3_lonelyCycles_25 rfl ?_
        refine g_callV X (ct_X3_bankAt l σ f a) (As := [.int (iI a)]) (rest := [.ref (σ 3)]) cl_X3 rfl ca_X3_bankAt rfl wm_X3_96 wi_X3_bankAt ws_X3_bankAt wc_X3_bankAt w0_X3 ⟨by decide, by decide⟩ (hs1.mem (i := 0) (by decide) (by decide)) hs1.obj (Nat.le_of_ble_eq_true rfl) ⟨by decide, by decide⟩ rfl dX3_lonelyCycles_27 rfl ⟨rfl, hs1, ⟨by omega, by omega⟩, ⟨by omega, by omega⟩, by omega, by omega⟩ (fun r1 L1 M1 hq => ?_)
        obtain ⟨rfl, rfl, rfl⟩ := hq
        refine g_st (st' := [.int (iI (bkG f a)), .ref (σ 3)]) rfl ?_
        refine g_st (st' := [.int (iI b), .ref (σ 3)]) (by rw [← hb]) ?_
        refine g_aald X (t := 3) rfl (hs1.mem (i := 3) (by decide) (by decide)) hs1.bks ⟨by omega, by omega⟩ (by decide) (if_pos (by omega)) dX3_lonelyCycles_30 rfl ?_
        have hw_4 : M1 (σ (4 + b)) = .inr (0, [.int (iI (f (6 + 4 * b))), .int (iI (f (6 + 4 * b + 1))), .int (iI (f (6 + 4 * b + 2))), .int (iI (f (6 + 4 * b + 3)))]) := (hs1.bank (by omega) (by omega))
        refine g_astore X (lv' := [(6, .ref (σ (4 + b))), (0, .ref (σ 0)), (1, .ref (τ (20 + i))), (2, .int (iI v)), (3, .int (iI z)), (4, .int (iI a)), (5, .int (iI y))]) (by decide) rfl dX3_lonelyCycles_31 rfl ?_
        refine g_iload_n X 4 rfl dX3_lonelyCycles_33 rfl ?_
        refine g_aload X 0 rfl dX3_lonelyCycles_34 rfl ?_
        refine g_getN X cl_X0 0 (by decide) wf_X3_99 rfl (hs1.mem (by omega) (by omega)) hw_4 rfl dX3_lonelyCycles_36 rfl ?_
        refine g_max X ⟨by omega, by omega⟩ ⟨by omega, by omega⟩ wm_X3_123 ⟨by decide, by decide⟩ ⟨by decide, by decide⟩ (Nat.le_of_ble_eq_true rfl) dX3_lonelyCycles_39 rfl ?_
        refine g_istore X (lv' := [(7, .int (iI (if z < f (6 + 4 * b) then f (6 + 4 * b) else z))), (6, .ref (σ (4 + b))), (0, .ref (σ 0)), (1, .ref (τ (20 + i))), (2, .int (iI v)), (3, .int (iI z)), (4, .int (iI a)), (5, .int (iI y))]) (by decide) rfl dX3_lonelyCycles_42 rfl ?_
        refine g_aload X 1 rfl dX3_lonelyCycles_44 rfl ?_
        refine g_iload X 0 rfl dX3_lonelyCycles_46 rfl ?_
        refine g_aload_n X 2 rfl dX3_lonelyCycles_48 rfl ?_
        refine g_get X cl_X3 0 (by decide) wf_X3_9 rfl (hs1.mem (i := 0) (by decide) (by decide)) hs1.obj rfl dX3_lonelyCycles_49 rfl ?_
        refine g_iconst X (z := 1) dX3_lonelyCycles_52 rfl ?_
        refine g_iald X (hs1.mem (i := 1) (by decide) (by decide)) hs1.set ⟨by decide, by decide⟩ (by decide) dX3_lonelyCycles_53 rfl ?_
        refine g_iadd X dX3_lonelyCycles_54 rfl ?_
        refine g_putN X cl_X0 0 (by decide) wf_X3_99 rfl (hs1.mem (by omega) (by omega)) hw_4 rfl rfl rfl (Nat.le_of_ble_eq_true rfl) (fs' := [.int (iI ((if z < f (6 + 4 * b) then f (6 + 4 * b) else z) + f 1)), .int (iI (f (6 + 4 * b + 1))), .int (iI (f (6 + 4 * b + 2))), .int (iI (f (6 + 4 * b + 3)))]) rfl dX3_lonelyCycles_55 rfl (fun M_5 hM_6 fr_7 => ?_)
        have hM_8 : M_5 (σ 0) = .inr (3, [.ref (σ 1), .ref (σ 2), .ref (σ 3), .int (iI (f 5)), .int (iI (f 4))]) := (fr_7 (σ 0) (hs1.ne (i := 0) (j := (4 + b)) (by omega) (by omega) (by omega) (by omega) (by omega))).trans hs1.obj
        have hM_9 : M_5 (σ 1) = cI ca 4 f := (fr_7 (σ 1) (hs1.ne (i := 1) (j := (4 + b)) (by omega) (by omega) (by omega) (by omega) (by omega))).trans hs1.set
        have hM_10 : M_5 (σ 2) = cR ca 5 4 (fun j => if j < 4 then some (σ (20 + j)) else none) := (fr_7 (σ 2) (hs1.ne (i := 2) (j := (4 + b)) (by omega) (by omega) (by omega) (by omega) (by omega))).trans hs1.strs
        have hM_11 : M_5 (σ 3) = cR ca 3 16 (fun j => if j < 16 then some (σ (4 + j)) else none) := (fr_7 (σ 3) (hs1.ne (i := 3) (j := (4 + b)) (by omega) (by omega) (by omega) (by omega) (by omega))).trans hs1.bks
        have hM_12 : M_5 (τ 0) = .inr (3, [.ref (τ 1), .ref (τ 2), .ref (τ 3), .int (iI (d 5)), .int (iI (d 4))]) := (fr_7 (τ 0) (Ne.symm (hd (4 + b) 0 (by omega) (by omega) (by omega) (by omega)))).trans ht1.obj
        have hM_13 : M_5 (τ 1) = cI ca 4 d := (fr_7 (τ 1) (Ne.symm (hd (4 + b) 1 (by omega) (by omega) (by omega) (by omega)))).trans ht1.set
        have hM_14 : M_5 (τ 2) = cR ca 5 4 (fun j => if j < 4 then some (τ (20 + j)) else none) := (fr_7 (τ 2) (Ne.symm (hd (4 + b) 2 (by omega) (by omega) (by omega) (by omega)))).trans ht1.strs
        have hM_15 : M_5 (τ 3) = cR ca 3 16 (fun j => if j < 16 then some (τ (4 + j)) else none) := (fr_7 (τ 3) (Ne.symm (hd (4 + b) 3 (by omega) (by omega) (by omega) (by omega)))).trans ht1.bks
        have hM_16 : M_5 (τ (20 + i)) = .inr (4, [.int (iI (d (70 + 10 * i))), .int (iI (d (70 + 10 * i + 1))), .int (iI (d (70 + 10 * i + 2))), .int (iI (d (70 + 10 * i + 3))), .int (iI (d (70 + 10 * i + 4))), .int (iI (d (70 + 10 * i + 5))), .int (iI (d (70 + 10 * i + 6))), .int (iI (d (70 + 10 * i + 7)))]) := (fr_7 (τ (20 + i)) (Ne.symm (hd (4 + b) (20 + i) (by omega) (by omega) (by omega) (by omega)))).trans hw_2
        refine g_iload X 0 rfl dX3_lonelyCycles_58 rfl ?_
        refine g_iconst X (z := 1) dX3_lonelyCycles_60 rfl ?_
        refine g_iadd X dX3_lonelyCycles_61 rfl ?_
        refine g_istore_n X (lv' := [(3, .int (iI ((if z < f (6 + 4 * b) then f (6 + 4 * b) else z) + 1))), (7, .int (iI (if z < f (6 + 4 * b) then f (6 + 4 * b) else z))), (6, .ref (σ (4 + b))), (0, .ref (σ 0)), (1, .ref (τ (20 + i))), (2, .int (iI v)), (4, .int (iI a)), (5, .int (iI y))]) (by decide) rfl dX3_lonelyCycles_62 rfl ?_
        refine g_iload X 6 rfl dX3_lonelyCycles_63 rfl ?_
        refine g_iload_n X 5 rfl dX3_lonelyCycles_65 rfl ?_
        refine g_iadd X dX3_lonelyCycles_66 rfl ?_
        refine g_sipush X (z := 4096) (by decide +kernel) dX3_lonelyCycles_67 rfl ?_
        refine g_irem X ⟨⟨by omega, by omega⟩, by omega, by omega⟩ dX3_lonelyCycles_70 rfl ?_
        refine g_istore X (lv' := [(4, .int (iI ((a + v) % 4096))), (3, .int (iI ((if z < f (6 + 4 * b) then f (6 + 4 * b) else z) + 1))), (7, .int (iI (if z < f (6 + 4 * b) then f (6 + 4 * b) else z))), (6, .ref (σ (4 + b))), (0, .ref (σ 0)), (1, .ref (τ (20 + i))), (2, .int (iI v)), (5, .int (iI y))]) (by decide) rfl dX3_lonelyCycles_71 rfl ?_
        refine g_iinc X (lv' := [(5, .int (iI (y + 1))), (4, .int (iI ((a + v) % 4096))), (3, .int (iI ((if z < f (6 + 4 * b) then f (6 + 4 * b) else z) + 1))), (7, .int (iI (if z < f (6 + 4 * b) then f (6 + 4 * b) else z))), (6, .ref (σ (4 + b))), (0, .ref (σ 0)), (1, .ref (τ (20 + i))), (2, .int (iI v))]) 7 rfl (by decide) rfl dX3_lonelyCycles_73 rfl ?_
        refine g_goto X (n := 11) dX3_lonelyCycles_76 (by decide) ?_
        have hfb2 := hfb b hbk.1 hbk.2.2
        have hmr : 0 ≤ (if z < f (6 + 4 * b) then f (6 + 4 * b) else z) ∧ (if z < f (6 + 4 * b) then f (6 + 4 * b) else z) ≤ 13 * y + 12 := by split <;> omega
        have hml : loM f z a = (if z < f (6 + 4 * b) then f (6 + 4 * b) else z) := by unfold loM; rw [← hb]
        have hz2 := hs1.putFree hbk.1 hbk.2.2 hM_6 fr_7
        have ht2 := ht1.kept (M1 := M_5) (fun j j0 j1 => fr_7 _ (Ne.symm (hd (4 + b) j (by omega) (by omega) j0 j1)))
        refine g_lv (lv' := [(0, .ref (σ 0)), (1, .ref (τ (20 + i))), (2, .int (iI v)), (3, .int (iI ((if z < f (6 + 4 * b) then f (6 + 4 * b) else z) + 1))), (4, .int (iI ((a + v) % 4096))), (5, .int (iI (y + 1)))]) [5, 6, 7, 2, 1, 0] rfl ?_
        exact ih (k + 1) _ _ _ _ _ (by omega) (by omega) (by simp only [loF]; rw [← hf, ← hz, ← ha, ← hb, hml]) (by simp only [loF]; rw [← hf, ← hz, ← ha, hml]) (by simp only [loF]; rw [← ha]) hz2 ht2 (hfr.trans (outS.one (σ := σ) (i := (4 + b)) (by omega) (by omega) fr_7)) (by omega) (by omega) (fun b2 q0 q1 => by by_cases e : b2 = b; (· rw [e, up_eq]; omega); (· rw [up_ne _ _ (by omega)]; have := hfb b2 q0 q1; omega)) (by rw [up_ne _ _ (by omega)]; exact f0) (by rw [up_ne _ _ (by omega)]; exact f1) (by rw [up_ne _ _ (by omega)]; exact f2) (by omega)
  refine g_iconst X (z := 0) dX3_lonelyCycles_0 rfl ?_
  refine g_istore_n X (lv' := [(3, .int (iI 0)), (0, .ref (σ 0)), (1, .ref (τ (20 + i))), (2, .int (iI v))]) (by decide) rfl dX3_lonelyCycles_1 rfl ?_
  refine g_aload_n X 2 rfl dX3_lonelyCycles_2 rfl ?_
  refine g_getN X cl_X4 0 (by decide) wf_X3_63 rfl (ht.mem (by omega) (by omega)) hw_1 rfl dX3_lonelyCycles_3 rfl ?_
  refine g_istore X (lv' := [(4, .int (iI (d (70 + 10 * i)))), (3, .int (iI 0)), (0, .ref (σ 0)), (1, .ref (τ (20 + i))), (2, .int (iI v))]) (by decide) rfl dX3_lonelyCycles_6 rfl ?_
  refine g_iconst X (z := 0) dX3_lonelyCycles_8 rfl ?_
  refine g_istore X (lv' := [(5, .int (iI 0)), (4, .int (iI (d (70 + 10 * i)))), (3, .int (iI 0)), (0, .ref (σ 0)), (1, .ref (τ (20 + i))), (2, .int (iI v))]) (by decide) rfl dX3_lonelyCycles_9 rfl ?_
  refine g_lv (lv' := [(0, .ref (σ 0)), (1, .ref (τ (20 + i))), (2, .int (iI v)), (3, .int (iI 0)), (4, .int (iI (d (70 + 10 * i)))), (5, .int (iI 0))]) [3, 4, 5, 2, 1, 0] rfl ?_
  exact lp 300 0 _ _ _ _ _ rfl (by omega) rfl rfl rfl hs ht (outS.refl _ _) (by omega) hst (fun b b0 b1 => by have := hB b b0 b1; simp only [loF]; omega) rfl rfl rfl (by omega)
