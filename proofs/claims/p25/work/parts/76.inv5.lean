/-! ===== what each act leaves, and what it answers ===== -/
def KS (S S2 : AS) : Prop := S2.2.2.1 = S.2.2.1 ∧ S2.2.2.2.1 = S.2.2.2.1
theorem KS.rf (S : AS) : KS S S := ⟨rfl, rfl⟩
theorem KS.tr {S S2 S3 : AS} (h : KS S S2) (h2 : KS S2 S3) : KS S S3 := ⟨h2.1.trans h.1, h2.2.trans h.2⟩
theorem mul_rng {a b : Int} (ha : 0 ≤ a ∧ a ≤ 20000) (hb : 0 ≤ b ∧ b ≤ 4) : 0 ≤ a * b ∧ a * b ≤ 80000 := by
  rcases (by omega : b = 0 ∨ b = 1 ∨ b = 2 ∨ b = 3 ∨ b = 4) with h | h | h | h | h <;> rw [h] <;> omega
theorem act_set {T : Int} {S S2 : AS} (h : PA T S) (hT : 0 ≤ T) {k v : Int} (hk : isSet k v) (e : S2 = opSet S k v) : anSet S k v = S.1 k ∧ PA T S2 ∧ KS S S2 ∧ S2.1 k = v ∧ S2.1 4 = 0 ∧ ofG S2.1 8 = 0 ∧ bbG S2.1 = 0 ∧ ofG S2.1 7 = 0 ∧ S2.1 = bgaG (up S.1 k v) := by
  have hW := set_wf h.1 k v
  rw [← e] at hW
  have e2 : S2 = chg S (bgaG (up S.1 k v)) := by rw [e, opSet, if_pos hk]
  have e1 : S2.1 = bgaG (up S.1 k v) := by rw [e2]; rfl
  have hkk : 0 ≤ k ∧ k < 4 := by unfold isSet at hk; omega
  obtain ⟨i1, i2⟩ := set_inv h.I hk
  obtain ⟨o7, o8, -⟩ := bga_of i1
  have g0 := i1.1
  have z4 : S2.1 4 = 0 := by rw [e1]; exact bga_cyc _
  refine ⟨by rw [anSet, if_pos hk], ⟨hW, by rw [e1]; exact set_PI h.I hk, by omega⟩, by rw [e2]; exact ⟨rfl, rfl⟩, ?_, z4, by rw [e1]; exact o8, ?_, by rw [e1]; exact o7, e1⟩
  · rw [e1, bga_low (by omega) (by omega), up_eq]
  · rw [e1, bbG, bb_zero _ (by rw [bga_low (by decide) (by decide)]; omega)]
theorem add_full {S : AS} (h4 : S.1 5 = 4) {a b z : Int} (ok : okAdd a b z) : anAdd S a b z = -4 ∧ opAdd S a b z = S := by
  refine ⟨by rw [anAdd, if_pos ok, if_pos h4], ?_⟩
  rw [opAdd, if_neg (fun q => q.2 h4)]
theorem act_add {T : Int} {S S2 : AS} (h : PA T S) (h4 : ¬ S.1 5 = 4) {a b z : Int} (ok : okAdd a b z) (e : S2 = opAdd S a b z) : anAdd S a b z = S.1 5 ∧ PA T S2 ∧ KS S S2 ∧ anStream S2 (S.1 5) 3 = z ∧ anStream S2 (S.1 5) 4 = a ∧ anStream S2 (S.1 5) 7 = -6 := by
  have s5 := h.S.2.2.2.2.2
  have hW := add_wf h.1 a b z
  rw [← e] at hW
  have e2 : S2 = chg S (putsG S.1 a b z) := by rw [e, opAdd, if_pos ⟨ok, h4⟩]
  have e1 : S2.1 = putsG S.1 a b z := by rw [e2]; rfl
  obtain ⟨pl, p5, pr, x0, x1, x2, x3, x4, x5, x6, x7, x8⟩ := puts_at (g := S.1) ⟨s5.1, by omega⟩ a b z
  rw [← e1] at p5 x3 x4 x8
  have e4 := pl 4 (by decide) (by decide)
  rw [← e1] at e4
  have hi : 0 ≤ S.1 5 ∧ S.1 5 < S2.1 5 := by omega
  have z1 : ¬ z = 0 := by unfold okAdd at ok; omega
  refine ⟨by rw [anAdd, if_pos ok, if_neg h4], ⟨hW, by rw [e1]; exact puts_PI h.I h.P (by omega) ok, by have := h.2.2; omega⟩, by rw [e2]; exact ⟨rfl, rfl⟩, ?_, ?_, ?_⟩
  · rw [s_low S2 hi (by decide), x3]
  · rw [s_4 S2 hi, x3, if_neg z1, x4]
  · rw [s_7 S2 hi, x3, if_neg z1]
theorem act_run {T : Int} {S S2 : AS} (h : PA T S) {v : Int} (hv : 1 ≤ v ∧ v ≤ 500) (hT : T + v ≤ 99999) (e : S2 = opRun S v) : anRun S v = itR S.1 v.toNat ∧ PA (T + v) S2 ∧ KS S S2 ∧ S2.1 4 = S.1 4 + v ∧ S2.1 5 = S.1 5 ∧ ofG S2.1 7 = ofG S.1 7 + itR S.1 v.toNat ∧ (0 ≤ itR S.1 v.toNat ∧ itR S.1 v.toNat ≤ v * S.1 5) ∧ wlG S2.1 = wlG S.1 - itR S.1 v.toNat ∧ S2.1 = itG S.1 v.toNat ∧ (1 ≤ S2.2.2.2.2.2.2 ∧ S2.2.2.2.2.2.2 ≤ 6) := by
  have h4 := h.2.2
  have hst := h.1.2.2.1
  have hW := run_wf h.1 v
  rw [← e] at hW
  have hv2 : ((v.toNat : Nat) : Int) = v := by omega
  have e2 : S2 = chg S (itG S.1 v.toNat) := by rw [e, opRun, if_pos ⟨hv, by omega⟩]
  have e1 : S2.1 = itG S.1 v.toNat := by rw [e2]; rfl
  obtain ⟨p1, p2, p3, p4, p5⟩ := it_PI h.I h.P v.toNat (by omega)
  obtain ⟨i1, i2, i3⟩ := itG_ok h.I v.toNat (by omega)
  rw [← e1] at p1 p2 p5 i2 i3
  rw [hv2] at p4 i2
  refine ⟨by rw [anRun, if_pos hv, if_neg (by omega)], ⟨hW, p1, by omega⟩, by rw [e2]; exact ⟨rfl, rfl⟩, i2, i3, p2, ⟨p3, p4⟩, p5, e1, ?_⟩
  have e3 : S2.2.2.2.2.2.2 = recN S.2.2.2.2.2.2 := by rw [e2]; rfl
  rw [e3]
  unfold recN recT
  split <;> omega
theorem drop_no {S : AS} {i : Int} (h : ¬ (0 ≤ i ∧ i < S.1 5)) : anDrop S i = -1 ∧ opDrop S i = S :=
  ⟨if_neg (fun q => h (by unfold isStr at q; omega)), if_neg (fun q => h (by unfold isStr at q; omega))⟩
theorem act_drop {T : Int} {S S2 : AS} (h : PA T S) {i : Int} (hi : 0 ≤ i ∧ i < S.1 5) (e : S2 = opDrop S i) : anDrop S i = anStream S i 3 ∧ PA T S2 ∧ KS S S2 ∧ S2.1 5 = S.1 5 - 1 ∧ ofG S2.1 9 ≤ ofG S.1 9 := by
  have s5 := h.S.2.2.2.2.2
  have hW := dropA_wf h.1 i
  rw [← e] at hW
  have hs : isStr S.1 i := by unfold isStr; omega
  have e2 : S2 = chg S (dropG S.1 i) := by rw [e, opDrop, if_pos hs]
  have e1 : S2.1 = dropG S.1 i := by rw [e2]; rfl
  obtain ⟨d1, d2, -⟩ := drop_at s5.2 hi.1 hi.2
  have e4 := d1 4 (by decide) (by decide) (Or.inr (by decide))
  have o := drop_of h.I hi.1 hi.2 9
  rw [ofV9] at o
  obtain ⟨⟨q1, -⟩, -⟩ := h.P.1 i hi.1 hi.2
  rw [← e1] at d2 e4 o
  refine ⟨by rw [anDrop, if_pos hs, s_low S hi (by decide)], ⟨hW, by rw [e1]; exact drop_PI h.I h.P hi.1 hi.2, by have := h.2.2; omega⟩, by rw [e2]; exact ⟨rfl, rfl⟩, d2, by omega⟩
theorem stride_no {S : AS} {i v : Int} (h : ¬ (0 ≤ i ∧ i < S.1 5)) : anStride S i v = -1 ∧ opStride S i v = S :=
  ⟨if_neg (fun q => h (by unfold isStr at q; omega)), if_neg (fun q => h (by unfold isStr at q; omega))⟩
theorem act_stride {T : Int} {S S2 : AS} (h : PA T S) {i v : Int} (hi : 0 ≤ i ∧ i < S.1 5) (hv : 0 ≤ v ∧ v ≤ 1023) (e : S2 = opStride S i v) : anStride S i v = anStream S i 1 ∧ PA T S2 ∧ KS S S2 ∧ anStream S2 i 1 = v ∧
    (anStream S i 3 = 0 → anStream S2 i 4 = -6) ∧ (¬ anStream S i 3 = 0 → anStream S i 3 = anStream S i 2 → anStream S2 i 4 = anStream S i 4) ∧ (¬ anStream S i 3 = 0 → ¬ anStream S i 3 = anStream S i 2 → anStream S2 i 4 = (anStream S i 4 - anStream S i 1 + v + 4096) % 4096) ∧
    (0 ≤ anStream S i 1 ∧ anStream S i 1 ≤ 1023) ∧ (-6 ≤ anStream S i 4 ∧ anStream S i 4 < 4096) ∧ (0 ≤ anStream S i 3 ∧ anStream S i 3 ≤ 200) ∧ (0 ≤ anStream S i 2 ∧ anStream S i 2 ≤ 200) ∧ (-6 ≤ anStream S2 i 4 ∧ anStream S2 i 4 < 4096) := by
  have s5 := h.S.2.2.2.2.2
  have hW := strideA_wf h.1 i v
  rw [← e] at hW
  have hs : isStr S.1 i := by unfold isStr; omega
  have e2 : S2 = chg S (strG S.1 i v) := by rw [e, opStride, if_pos ⟨hs, hv⟩]
  have e1 : S2.1 = strG S.1 i v := by rw [e2]; rfl
  obtain ⟨u, u1, u4⟩ := str_at (g := S.1) hi.1 v
  have e4 := u 4 (by omega) (by omega)
  have e5 := u 5 (by omega) (by omega)
  have e3 := u (70 + 10 * i + 3) (by omega) (by omega)
  rw [← e1] at u1 u4 e4 e5 e3
  have hi2 : 0 ≤ i ∧ i < S2.1 5 := by omega
  obtain ⟨⟨r0, r01⟩, ⟨r1, r11⟩, ⟨r2, r21⟩, ⟨r3, r31⟩, ⟨r4, r41⟩, r5⟩ := h.I.2.2 i hi.1 hi.2
  have a4 : anStream S2 i 4 = if S.1 (70 + 10 * i + 3) = 0 then -6 else if S.1 (70 + 10 * i + 5) < 0 then S.1 (70 + 10 * i) else (S.1 (70 + 10 * i + 5) + v) % 4096 := by rw [s_4 S2 hi2, e3, u4]
  rw [a4, s_4 S hi, s_low S hi (w := 1) (by decide), s_low S hi (w := 3) (by decide), s_low S hi (w := 2) (by decide)]
  refine ⟨by rw [anStride, if_pos hs, if_pos hv], ⟨hW, by rw [e1]; exact str_PI h.I h.P hi.1, by have := h.2.2; omega⟩, by rw [e2]; exact ⟨rfl, rfl⟩, by rw [s_low S2 hi2 (by decide), u1], fun hz => by rw [if_pos hz], fun hz hf => ?_, fun hz hf => ?_, by omega, ?_, by omega, by omega, ?_⟩
  · rw [if_neg hz, if_neg hz, if_pos (by omega)]; omega
  · rw [if_neg hz, if_neg hz, if_neg (by omega)]; omega
  · split <;> omega
  · split
    · omega
    · split <;> omega
/-! the best map, set -/
theorem mpc_rng (g : Int → Int) (m : Int) : 0 ≤ mpC g m ∧ mpC g m ≤ 20000 := ro_rng 20000
theorem bm_ok (g : Int → Int) : ∀ k : Nat, 0 < k → (0 ≤ (bmF g k).1 ∧ (bmF g k).1 < k) ∧ (bmF g k).2 = mpC g (bmF g k).1 ∧ (bmF g k).2 ≤ 20000
  | 0, h => absurd h (by decide)
  | k + 1, _ => by
    have hm := mpc_rng g k
    simp only [bmF]
    by_cases h : mpC g k < (bmF g k).2
    · rw [if_pos h, if_pos h]; exact ⟨by omega, rfl, by omega⟩
    · rw [if_neg h, if_neg h]
      by_cases hk : 0 < k
      · obtain ⟨a, b, c⟩ := bm_ok g k hk
        exact ⟨by omega, b, c⟩
      · have e : k = 0 := by omega
        subst e
        exfalso
        simp only [bmF] at h
        omega
theorem map_ok (S : AS) : (0 ≤ anMap S 0 ∧ anMap S 0 ≤ 2) ∧ (0 ≤ anMap S 1 ∧ anMap S 1 ≤ 20000) ∧ anMap S 1 = mpC S.1 (anMap S 0) := by
  have e0 : anMap S 0 = (bmF S.1 3).1 := by rw [anMap, if_pos (by decide), if_pos rfl]
  have e1 : anMap S 1 = (bmF S.1 3).2 := by rw [anMap, if_pos (by decide), if_neg (by decide)]
  obtain ⟨a, b, c⟩ := bm_ok S.1 3 (by decide)
  have := mpc_rng S.1 (bmF S.1 3).1
  rw [e0, e1]
  exact ⟨by omega, by omega, b⟩
theorem bm_ext {g h : Int → Int} : ∀ k : Nat, (∀ m : Int, 0 ≤ m → m < k → mpC h m = mpC g m) → bmF h k = bmF g k
  | 0, _ => rfl
  | k + 1, e => by
    simp only [bmF]
    rw [bm_ext k (fun m m0 m1 => e m m0 (by omega)), e k (by omega) (by omega)]
theorem bgaS_keep (g : Int → Int) {k : Int} : ∀ n : Nat, (k < 70 ∨ (k - 70) % 10 < 3 ∨ (k - 70) % 10 = 9 ∨ (n : Int) ≤ (k - 70) / 10) → bgaS g n k = g k
  | 0, _ => rfl
  | n + 1, h => by
    simp only [bgaS]
    rw [bgn_out _ (by omega), bgaS_keep g n (by omega)]
theorem bga_keep {g : Int → Int} (h5 : 0 ≤ g 5) {k : Int} (hk : 70 ≤ k) (h : (k - 70) % 10 < 3 ∨ (k - 70) % 10 = 9 ∨ g 5 ≤ (k - 70) / 10) : bgaG g k = g k := by
  unfold bgaG
  rw [bgaS_keep _ _ (by omega), bga_base g hk]
theorem bga_same {g h : Int → Int} (h5 : 0 ≤ g 5) (e : ∀ k, k < 6 → k ≠ 4 → h k = g k) (f : ∀ k, 70 ≤ k → (k - 70) % 10 < 3 ∨ (k - 70) % 10 = 9 ∨ g 5 ≤ (k - 70) / 10 → h k = g k) : bgaG h = bgaG g := by
  have e5 := e 5 (by decide) (by decide)
  funext k
  by_cases h1 : k < 6
  · by_cases h4 : k = 4
    · subst h4; rw [bga_cyc, bga_cyc]
    · rw [bga_low h1 h4, bga_low h1 h4]; exact e k h1 h4
  · by_cases h2 : k < 70
    · rw [bga_bank h (by omega) h2, bga_bank g (by omega) h2]
    · by_cases h3 : (k - 70) % 10 < 3 ∨ (k - 70) % 10 = 9 ∨ g 5 ≤ (k - 70) / 10
      · rw [bga_keep h5 (by omega) h3, bga_keep (by omega) (by omega) (by rw [e5]; exact h3)]
        exact f k (by omega) h3
      · obtain ⟨j, hj⟩ : ∃ j, j = (k - 70) / 10 := ⟨_, rfl⟩
        have j0 : 0 ≤ j := by omega
        have j1 : j < g 5 := by omega
        obtain ⟨-, -, -, a⟩ := bga_row g j0
        obtain ⟨-, -, -, b⟩ := bga_row h j0
        obtain ⟨a3, a4, a5, a6, a7, a8⟩ := a j1
        obtain ⟨b3, b4, b5, b6, b7, b8⟩ := b (by omega)
        have f0 := f (70 + 10 * j) (by omega) (Or.inl (by omega))
        have f2 := f (70 + 10 * j + 2) (by omega) (Or.inl (by omega))
        rcases (by omega : k = 70 + 10 * j + 3 ∨ k = 70 + 10 * j + 4 ∨ k = 70 + 10 * j + 5 ∨ k = 70 + 10 * j + 6 ∨ k = 70 + 10 * j + 7 ∨ k = 70 + 10 * j + 8) with q | q | q | q | q | q <;> rw [q]
        · rw [a3, b3, f2]
        · rw [a4, b4, f0]
        · rw [a5, b5]
        · rw [a6, b6]
        · rw [a7, b7]
        · rw [a8, b8]
theorem mp_again {g : Int → Int} (h5 : 0 ≤ g 5) (b m : Int) : mpC (bgaG (bgaG (up g 2 b))) m = mpC g m := by
  have u5 : ∀ v : Int, up g 2 v 5 = g 5 := fun v => up_ne _ _ (by decide)
  have l5 : ∀ h : Int → Int, bgaG h 5 = h 5 := fun h => bga_low (by decide) (by decide)
  unfold mpC
  rw [bga_same (g := up g 2 m) (h := up (bgaG (bgaG (up g 2 b))) 2 m) (by rw [u5]; exact h5) (fun k hk h4 => ?_) (fun k hk h3 => ?_)]
  · by_cases e : k = 2
    · subst e; rw [up_eq, up_eq]
    · rw [up_ne _ _ e, up_ne _ _ e, bga_low hk h4, bga_low hk h4, up_ne _ _ e]
  · rw [u5] at h3
    rw [up_ne _ _ (by omega), up_ne _ _ (by omega), bga_keep (by rw [l5, u5]; exact h5) hk (by rw [l5, u5]; exact h3), bga_keep (by rw [u5]; exact h5) hk (by rw [u5]; exact h3), up_ne _ _ (by omega)]
theorem act_best {T : Int} {S S2 S3 : AS} (h : PA T S) (hT : 0 ≤ T) (e : S2 = opSet S 2 (anMap S 0)) (e3 : S3 = opReset S2) : anSet S 2 (anMap S 0) = S.1 2 ∧ PA T S2 ∧ KS S S2 ∧ roC 20000 S2.1 = anMap S 1 ∧ anReset S2 = wlG S3.1 ∧ PA T S3 ∧ KS S S3 ∧ anMap S3 0 = anMap S 0 := by
  obtain ⟨m0, m1, m2⟩ := map_ok S
  have s5 := h.S.2.2.2.2.2
  obtain ⟨a1, a2, a3, -, -, -, -, -, a9⟩ := act_set h hT (k := 2) (v := anMap S 0) (Or.inr (Or.inr (Or.inl ⟨rfl, m0.1, m0.2⟩))) e
  have hW := reset_wf a2.1
  rw [← e3] at hW
  have f1 : S3.1 = bgaG S2.1 := by rw [e3]; rfl
  refine ⟨a1, a2, a3, by rw [m2, a9]; rfl, by rw [f1]; rfl, ⟨hW, by rw [f1]; exact bga_PI a2.S a2.I.L, by rw [f1, bga_cyc]; exact hT⟩, a3.tr (by rw [e3]; exact ⟨rfl, rfl⟩), ?_⟩
  have q0 : anMap S3 0 = (bmF S3.1 3).1 := by rw [anMap, if_pos (by decide), if_pos rfl]
  have q1 : anMap S 0 = (bmF S.1 3).1 := by rw [anMap, if_pos (by decide), if_pos rfl]
  rw [q0, f1, a9, bm_ext 3 (fun m _ _ => mp_again s5.1 (anMap S 0) m), ← q1]
