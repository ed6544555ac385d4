/-! the class's store: its small methods -/
def frK (c : Int → Int) : Nat → (Int → Int)
  | 0 => c
  | k + 1 => setB (frK c k) k bkBegin
def bgR (c : Int → Int) : Nat → (Int → Int)
  | 0 => c
  | k + 1 => setR (bgR c k) k (rwBegin (fRow (bgR c k) k))
def cpR (c d : Int → Int) : Nat → (Int → Int)
  | 0 => c
  | k + 1 => setR (cpR c d k) k (fRow d k)
def cpB (c d : Int → Int) : Nat → (Int → Int)
  | 0 => c
  | k + 1 => setB (cpB c d k) k (fBank d k)
def bgC (c : Int → Int) : Int → Int := bgR (frK (up c 4 0) 16) (c 5).toNat
theorem frK_out (c : Int → Int) {j : Int} (h : j < 6 ∨ 70 ≤ j) : ∀ k : Nat, k ≤ 16 → frK c k j = c j
  | 0, _ => rfl
  | k + 1, hk => by simp only [frK]; rw [setB_out _ _ _ (by omega), frK_out c h k (by omega)]
theorem frK_in (c : Int → Int) {b j : Int} (hb : 0 ≤ b) (j0 : 0 ≤ j) (j1 : j < 4) : ∀ k : Nat, b < k → frK c k (6 + 4 * b + j) = bkBegin j
  | 0, h => absurd h (by omega)
  | k + 1, h => by
    simp only [frK]
    by_cases e : (k : Int) = b
    · rw [e]; exact setB_in _ _ _ j0 j1
    · rw [setB_out _ _ _ (by omega)]; exact frK_in c hb j0 j1 k (by omega)
theorem bgR_low (c : Int → Int) {j : Int} (h : j < 70) : ∀ k : Nat, bgR c k j = c j
  | 0 => rfl
  | k + 1 => by simp only [bgR]; rw [setR_out _ _ _ (by omega), bgR_low c h k]
theorem bgR_out (c : Int → Int) {i j : Int} (j0 : 0 ≤ j) (j1 : j < 10) : ∀ k : Nat, k ≤ i → bgR c k (70 + 10 * i + j) = c (70 + 10 * i + j)
  | 0, _ => rfl
  | k + 1, h => by simp only [bgR]; rw [setR_out _ _ _ (by omega), bgR_out c j0 j1 k (by omega)]
theorem bgR_in (c : Int → Int) {i j : Int} (hi : 0 ≤ i) (j0 : 0 ≤ j) (j1 : j < 8) : ∀ k : Nat, i < k → bgR c k (70 + 10 * i + j) = rwBegin (fRow c i) j
  | 0, h => absurd h (by omega)
  | k + 1, h => by
    simp only [bgR]
    by_cases e : (k : Int) = i
    · rw [e, setR_in _ _ _ j0 j1]
      have q := fun m (m0 : 0 ≤ m) (m1 : m < 10) => bgR_out c (i := i) m0 m1 k (by omega)
      have e2 : fRow (bgR c k) i 0 = fRow c i 0 := q 0 (by decide) (by decide)
      have e3 : fRow (bgR c k) i 1 = fRow c i 1 := q 1 (by decide) (by decide)
      have e4 : fRow (bgR c k) i 2 = fRow c i 2 := q 2 (by decide) (by decide)
      simp only [rwBegin]
      rw [e2, e3, e4]
    · rw [setR_out _ _ _ (by omega)]; exact bgR_in c hi j0 j1 k (by omega)
theorem cpR_low (c d : Int → Int) {j : Int} (h : j < 70) : ∀ k : Nat, cpR c d k j = c j
  | 0 => rfl
  | k + 1 => by simp only [cpR]; rw [setR_out _ _ _ (by omega), cpR_low c d h k]
theorem cpR_in (c d : Int → Int) {i j : Int} (hi : 0 ≤ i) (j0 : 0 ≤ j) (j1 : j < 8) : ∀ k : Nat, i < k → cpR c d k (70 + 10 * i + j) = d (70 + 10 * i + j)
  | 0, h => absurd h (by omega)
  | k + 1, h => by
    simp only [cpR]
    by_cases e : (k : Int) = i
    · rw [e]; exact setR_in _ _ _ j0 j1
    · rw [setR_out _ _ _ (by omega)]; exact cpR_in c d hi j0 j1 k (by omega)
theorem cpB_out (c d : Int → Int) {j : Int} (h : j < 6 ∨ 70 ≤ j) : ∀ k : Nat, k ≤ 16 → cpB c d k j = c j
  | 0, _ => rfl
  | k + 1, hk => by simp only [cpB]; rw [setB_out _ _ _ (by omega), cpB_out c d h k (by omega)]
theorem cpB_in (c d : Int → Int) {b j : Int} (hb : 0 ≤ b) (j0 : 0 ≤ j) (j1 : j < 4) : ∀ k : Nat, b < k → cpB c d k (6 + 4 * b + j) = d (6 + 4 * b + j)
  | 0, h => absurd h (by omega)
  | k + 1, h => by
    simp only [cpB]
    by_cases e : (k : Int) = b
    · rw [e]; exact setB_in _ _ _ j0 j1
    · rw [setB_out _ _ _ (by omega)]; exact cpB_in c d hb j0 j1 k (by omega)
/-- the settings are copied -/
def cpS (c d : Int → Int) : Int → Int := fun k => if 0 ≤ k ∧ k < 4 then d k else c k
theorem cp_all {c d : Int → Int} {k : Int} (h : (0 ≤ k ∧ k < 70) ∨ ∃ i j, 0 ≤ i ∧ i < 4 ∧ 0 ≤ j ∧ j < 8 ∧ k = 70 + 10 * i + j) : d k = up (up (cpB (cpR (cpS c d) d 4) d 16) 5 (d 5)) 4 (d 4) k := by
  rcases h with h | ⟨i, j, i0, i1, j0, j1, rfl⟩
  · by_cases e4 : k = 4
    · subst e4; rw [up_eq]
    · rw [up_ne _ _ e4]
      by_cases e5 : k = 5
      · subst e5; rw [up_eq]
      · rw [up_ne _ _ e5]
        by_cases e6 : k < 6
        · rw [cpB_out _ _ (by omega) _ (by omega), cpR_low _ _ (by omega), cpS, if_pos (by omega)]
        · rw [show k = 6 + 4 * ((k - 6) / 4) + (k - 6) % 4 by omega, cpB_in _ _ (by omega) (by omega) (by omega) 16 (by omega)]
  · rw [up_ne _ _ (by omega), up_ne _ _ (by omega), cpB_out _ _ (by omega) _ (by omega), cpR_in _ _ i0 j0 j1 4 (by omega)]
set_option maxRecDepth 100000 in
set_option maxHeartbeats 4000000 in
theorem ct_X3_greatestPrime (l : Launch) (σ : Int → Nat) (c : Int → Int) : Ct l yX3_greatestPrime cX3_greatestPrime 1 (some .int) 0 0 0 (fun ca av L M => av = [.ref (σ 0)] ∧ isSt ca L M σ c ∧ (2 ≤ c 0 ∧ c 0 ≤ 16)) (fun ca av L M r L1 M1 => r = some (.int (iI (tGP (c 0)))) ∧ L = L1 ∧ M = M1) := by
  refine Ct_of (own := RX3) (by decide) rfl (by rintro _ _ _ _ ⟨rfl, _⟩; exact Nat.le_of_ble_eq_true rfl) ?_
  rintro p e s m args below meth cod D ca A av L M ⟨rfl, hs, h0⟩ X hret hname
  refine g_lv (lv' := [(0, .ref (σ 0))]) [0] rfl ?_
  refine g_getsN X (host := "StrideBanks") wf_X3_79 X.2.2.2.1.2.2.2 dX3_greatestPrime_0 rfl (fun t_1 hT_2 => ?_)
  refine g_aload_n X 0 rfl dX3_greatestPrime_3 rfl ?_
  refine g_get X cl_X3 0 (by decide) wf_X3_9 rfl (hs.mem (i := 0) (by decide) (by decide)) hs.obj rfl dX3_greatestPrime_4 rfl ?_
  refine g_iconst X (z := 0) dX3_greatestPrime_7 rfl ?_
  refine g_iald X (hs.mem (i := 1) (by decide) (by decide)) hs.set ⟨by decide, by decide⟩ (by decide) dX3_greatestPrime_8 rfl ?_
  refine g_ti X hT_2 ⟨by omega, by omega⟩ (by decide) dX3_greatestPrime_9 rfl ?_
  exact g_iret X hret ⟨Nat.le_of_ble_eq_true rfl, Nat.le_of_ble_eq_true rfl⟩ dX3_greatestPrime_10 ⟨rfl, rfl, rfl⟩
set_option maxRecDepth 100000 in
set_option maxHeartbeats 4000000 in
theorem ct_X3_bankAt (l : Launch) (σ : Int → Nat) (c : Int → Int) (a : Int) : Ct l yX3_bankAt cX3_bankAt 4 (some .int) 1 0 0 (fun ca av L M => av = [.ref (σ 0), .int (iI a)] ∧ isSt ca L M σ c ∧ (2 ≤ c 0 ∧ c 0 ≤ 16) ∧ (0 ≤ c 2 ∧ c 2 ≤ 2) ∧ (0 ≤ a ∧ a ≤ 1000000)) (fun ca av L M r L1 M1 => r = some (.int (iI (bkG c a))) ∧ L = L1 ∧ M = M1) := by
  refine Ct_of (own := RX3) (by decide) rfl (by rintro _ _ _ _ ⟨rfl, _⟩; exact Nat.le_of_ble_eq_true rfl) ?_
  rintro p e s m args below meth cod D ca A av L M ⟨rfl, hs, h0, h2, ha⟩ X hret hname
  refine g_lv (lv' := [(0, .ref (σ 0)), (1, .int (iI a))]) [0, 1] rfl ?_
  have hg := tGP_rng h0.1 h0.2
  have hd1 := Int.ediv_nonneg ha.1 (by omega : 0 ≤ c 0)
  have hd2 := Int.ediv_le_self (c 0) ha.1
  refine g_aload_n X 0 rfl dX3_bankAt_0 rfl ?_
  refine g_get X cl_X3 0 (by decide) wf_X3_9 rfl (hs.mem (i := 0) (by decide) (by decide)) hs.obj rfl dX3_bankAt_1 rfl ?_
  refine g_iconst X (z := 2) dX3_bankAt_4 rfl ?_
  refine g_iald X (hs.mem (i := 1) (by decide) (by decide)) hs.set ⟨by decide, by decide⟩ (by decide) dX3_bankAt_5 rfl ?_
  refine g_iconst X (z := 2) dX3_bankAt_6 rfl ?_
  refine g_icmp_ne X ⟨by omega, by omega⟩ ⟨by decide, by decide⟩ (tgt := 17) dX3_bankAt_7 (by decide) rfl (fun h_1 => ?_) (fun h_1 => ?_)
  · refine g_aload_n X 0 rfl dX3_bankAt_17 rfl ?_
    refine g_get X cl_X3 0 (by decide) wf_X3_9 rfl (hs.mem (i := 0) (by decide) (by decide)) hs.obj rfl dX3_bankAt_18 rfl ?_
    refine g_iconst X (z := 0) dX3_bankAt_21 rfl ?_
    refine g_iald X (hs.mem (i := 1) (by decide) (by decide)) hs.set ⟨by decide, by decide⟩ (by decide) dX3_bankAt_22 rfl ?_
    refine g_istore_n X (lv' := [(2, .int (iI (c 0))), (0, .ref (σ 0)), (1, .int (iI a))]) (by decide) rfl dX3_bankAt_23 rfl ?_
    refine g_iload_n X 0 rfl dX3_bankAt_24 rfl ?_
    refine g_iconst X (z := 1) dX3_bankAt_25 rfl ?_
    refine g_icmp_ge X ⟨by omega, by omega⟩ ⟨by decide, by decide⟩ (tgt := 31) dX3_bankAt_26 (by decide) rfl (fun h_2 => ?_) (fun h_2 => ?_)
    · refine g_aload_n X 1 rfl dX3_bankAt_31 rfl ?_
      refine g_get X cl_X3 0 (by decide) wf_X3_9 rfl (hs.mem (i := 0) (by decide) (by decide)) hs.obj rfl dX3_bankAt_32 rfl ?_
      refine g_iconst X (z := 2) dX3_bankAt_35 rfl ?_
      refine g_iald X (hs.mem (i := 1) (by decide) (by decide)) hs.set ⟨by decide, by decide⟩ (by decide) dX3_bankAt_36 rfl ?_
      refine g_iconst X (z := 1) dX3_bankAt_37 rfl ?_
      refine g_icmp_ne X ⟨by omega, by omega⟩ ⟨by decide, by decide⟩ (tgt := 49) dX3_bankAt_38 (by decide) rfl (fun h_3 => ?_) (fun h_3 => ?_)
      · refine g_iload_n X 2 rfl dX3_bankAt_49 rfl ?_
        refine g_istore_n X (lv' := [(3, .int (iI a)), (2, .int (iI (c 0))), (0, .ref (σ 0)), (1, .int (iI a))]) (by decide) rfl dX3_bankAt_50 rfl ?_
        refine g_iload_n X 0 rfl dX3_bankAt_51 rfl ?_
        refine g_iload_n X 1 rfl dX3_bankAt_52 rfl ?_
        refine g_irem X ⟨⟨by omega, by omega⟩, by omega, by omega⟩ dX3_bankAt_53 rfl ?_
        exact g_iret X hret ⟨Nat.le_of_ble_eq_true rfl, Nat.le_of_ble_eq_true rfl⟩ dX3_bankAt_54 ⟨by rw [bkG, if_pos (by omega)], rfl, rfl⟩
      · refine g_iload_n X 2 rfl dX3_bankAt_41 rfl ?_
        refine g_iload_n X 2 rfl dX3_bankAt_42 rfl ?_
        refine g_iload_n X 0 rfl dX3_bankAt_43 rfl ?_
        refine g_idiv X ⟨⟨by omega, by omega⟩, by omega, by omega⟩ dX3_bankAt_44 rfl ?_
        refine g_iadd X dX3_bankAt_45 rfl ?_
        refine g_goto X (n := 50) dX3_bankAt_46 (by decide) ?_
        refine g_istore_n X (lv' := [(3, .int (iI (a + (a / c 0)))), (2, .int (iI (c 0))), (0, .ref (σ 0)), (1, .int (iI a))]) (by decide) rfl dX3_bankAt_50 rfl ?_
        refine g_iload_n X 0 rfl dX3_bankAt_51 rfl ?_
        refine g_iload_n X 1 rfl dX3_bankAt_52 rfl ?_
        refine g_irem X ⟨⟨by omega, by omega⟩, by omega, by omega⟩ dX3_bankAt_53 rfl ?_
        exact g_iret X hret ⟨Nat.le_of_ble_eq_true rfl, Nat.le_of_ble_eq_true rfl⟩ dX3_bankAt_54 ⟨by rw [bkG, if_neg (by omega), if_pos (by omega)], rfl, rfl⟩
    · exact absurd h_2 (by omega)
  · refine g_aload_n X 0 rfl dX3_bankAt_10 rfl ?_
    refine g_callV X (ct_X3_greatestPrime l σ c) (As := []) (rest := []) cl_X3 rfl ca_X3_greatestPrime rfl wm_X3_82 wi_X3_greatestPrime ws_X3_greatestPrime wc_X3_greatestPrime w0_X3 ⟨by decide, by decide⟩ (hs.mem (i := 0) (by decide) (by decide)) hs.obj (by decide) ⟨by decide, by decide⟩ rfl dX3_bankAt_11 rfl ⟨rfl, hs, h0⟩ (fun r1 L1 M1 hq => ?_)
    obtain ⟨rfl, rfl, rfl⟩ := hq
    refine g_st (st' := [.int (iI (tGP (c 0)))]) rfl ?_
    refine g_goto X (n := 23) dX3_bankAt_14 (by decide) ?_
    refine g_istore_n X (lv' := [(2, .int (iI (tGP (c 0)))), (0, .ref (σ 0)), (1, .int (iI a))]) (by decide) rfl dX3_bankAt_23 rfl ?_
    refine g_iload_n X 0 rfl dX3_bankAt_24 rfl ?_
    refine g_iconst X (z := 1) dX3_bankAt_25 rfl ?_
    refine g_icmp_ge X ⟨by omega, by omega⟩ ⟨by decide, by decide⟩ (tgt := 31) dX3_bankAt_26 (by decide) rfl (fun h_4 => ?_) (fun h_4 => ?_)
    · refine g_aload_n X 1 rfl dX3_bankAt_31 rfl ?_
      refine g_get X cl_X3 0 (by decide) wf_X3_9 rfl (hs.mem (i := 0) (by decide) (by decide)) hs.obj rfl dX3_bankAt_32 rfl ?_
      refine g_iconst X (z := 2) dX3_bankAt_35 rfl ?_
      refine g_iald X (hs.mem (i := 1) (by decide) (by decide)) hs.set ⟨by decide, by decide⟩ (by decide) dX3_bankAt_36 rfl ?_
      refine g_iconst X (z := 1) dX3_bankAt_37 rfl ?_
      refine g_icmp_ne X ⟨by omega, by omega⟩ ⟨by decide, by decide⟩ (tgt := 49) dX3_bankAt_38 (by decide) rfl (fun h_5 => ?_) (fun h_5 => ?_)
      · refine g_iload_n X 2 rfl dX3_bankAt_49 rfl ?_
        refine g_istore_n X (lv' := [(3, .int (iI a)), (2, .int (iI (tGP (c 0)))), (0, .ref (σ 0)), (1, .int (iI a))]) (by decide) rfl dX3_bankAt_50 rfl ?_
        refine g_iload_n X 0 rfl dX3_bankAt_51 rfl ?_
        refine g_iload_n X 1 rfl dX3_bankAt_52 rfl ?_
        refine g_irem X ⟨⟨by omega, by omega⟩, by omega, by omega⟩ dX3_bankAt_53 rfl ?_
        exact g_iret X hret ⟨Nat.le_of_ble_eq_true rfl, Nat.le_of_ble_eq_true rfl⟩ dX3_bankAt_54 ⟨by rw [bkG, if_neg (by omega), if_neg (by omega)], rfl, rfl⟩
      · exact absurd (Decidable.not_not.mp h_5) (by omega)
    · exact absurd h_4 (by omega)
set_option maxRecDepth 100000 in
set_option maxHeartbeats 4000000 in
theorem ct_X3_has (l : Launch) (σ : Int → Nat) (c : Int → Int) (i : Int) : Ct l yX3_has cX3_has 2 (some .boolean) 0 0 0 (fun ca av L M => av = [.ref (σ 0), .int (iI i)] ∧ isSt ca L M σ c ∧ R32 i ∧ (0 ≤ c 5 ∧ c 5 ≤ 4)) (fun ca av L M r L1 M1 => r = some (.int (iI (if 0 ≤ i ∧ i < c 5 then 1 else 0))) ∧ L = L1 ∧ M = M1) := by
  refine Ct_of (own := RX3) (by decide) rfl (by rintro _ _ _ _ ⟨rfl, _⟩; exact Nat.le_of_ble_eq_true rfl) ?_
  rintro p e s m args below meth cod D ca A av L M ⟨rfl, hs, hi, h5⟩ X hret hname
  refine g_lv (lv' := [(0, .ref (σ 0)), (1, .int (iI i))]) [0, 1] rfl ?_
  refine g_iload_n X 1 rfl dX3_has_0 rfl ?_
  refine g_if_lt X hi (tgt := 16) dX3_has_1 (by decide) rfl (fun h_1 => ?_) (fun h_1 => ?_)
  · refine g_iconst X (z := 0) dX3_has_16 rfl ?_
    exact g_zret X hret (by rfl) ⟨Nat.le_of_ble_eq_true rfl, Nat.le_of_ble_eq_true rfl⟩ dX3_has_17 ⟨by rw [if_neg (by omega)], rfl, rfl⟩
  · refine g_iload_n X 1 rfl dX3_has_4 rfl ?_
    refine g_aload_n X 0 rfl dX3_has_5 rfl ?_
    refine g_get X cl_X3 3 (by decide) wf_X3_52 rfl (hs.mem (i := 0) (by decide) (by decide)) hs.obj rfl dX3_has_6 rfl ?_
    refine g_icmp_ge X hi ⟨by omega, by omega⟩ (tgt := 16) dX3_has_9 (by decide) rfl (fun h_2 => ?_) (fun h_2 => ?_)
    · refine g_iconst X (z := 0) dX3_has_16 rfl ?_
      exact g_zret X hret (by rfl) ⟨Nat.le_of_ble_eq_true rfl, Nat.le_of_ble_eq_true rfl⟩ dX3_has_17 ⟨by rw [if_neg (by omega)], rfl, rfl⟩
    · refine g_iconst X (z := 1) dX3_has_12 rfl ?_
      refine g_goto X (n := 17) dX3_has_13 (by decide) ?_
      exact g_zret X hret (by rfl) ⟨Nat.le_of_ble_eq_true rfl, Nat.le_of_ble_eq_true rfl⟩ dX3_has_17 ⟨by rw [if_pos (by omega)], rfl, rfl⟩
set_option maxRecDepth 100000 in
set_option maxHeartbeats 4000000 in
theorem ct_X3_freeBanks (l : Launch) (σ : Int → Nat) (c : Int → Int) : Ct l yX3_freeBanks cX3_freeBanks 2 none 1 0 0 (fun ca av L M => av = [.ref (σ 0)] ∧ isSt ca L M σ c) (fun ca av L M r L1 M1 => r = none ∧ L = L1 ∧ isSt ca L M1 σ (frK c 16) ∧ outS σ M M1) := by
  refine Ct_of (own := RX3) (by decide) rfl (by rintro _ _ _ _ ⟨rfl, _⟩; exact Nat.le_of_ble_eq_true rfl) ?_
  rintro p e s m args below meth cod D ca A av L M ⟨rfl, hs⟩ X hret hname
  refine g_lv (lv' := [(0, .ref (σ 0))]) [0] rfl ?_
  generalize hQ : MQ below _ args s _ _ A = Q
  have lp : ∀ (n : Nat) (k : Nat) (y : Int) (M1 : Mem) (f : Int → Int) (hy : y = k) (hk : y ≤ 16) (hf : f = frK c k) (hs1 : isSt ca L M1 σ f) (hfr : outS σ M M1) (hm : 16 - y < (n : Int)), G p l e (Rm 1 0 0) s m args below meth cod D A 2 Q 0 0 L M1 2 [(0, .ref (σ 0)), (1, .int (iI y))] [] := by
    intro n
    induction n with
    | zero =>
      intro k y M1 f hy hk hf hs1 hfr hm
      exfalso; omega
    | succ n ih =>
      intro k y M1 f hy hk hf hs1 hfr hm
      refine g_iload_n X 1 rfl dX3_freeBanks_2 rfl ?_
      refine g_bipush X (z := 16) (by decide +kernel) dX3_freeBanks_3 rfl ?_
      refine g_icmp_ge X ⟨by omega, by omega⟩ ⟨by decide, by decide⟩ (tgt := 23) dX3_freeBanks_5 (by decide) rfl (fun h_1 => ?_) (fun h_1 => ?_)
      · subst hQ
        exact g_vret X hret ⟨Nat.le_of_ble_eq_true rfl, Nat.le_of_ble_eq_true rfl⟩ dX3_freeBanks_23 ⟨rfl, rfl, by rw [← show k = 16 from by omega, ← hf]; exact hs1, hfr⟩
      · refine g_aload_n X 0 rfl dX3_freeBanks_8 rfl ?_
        refine g_get X cl_X3 2 (by decide) wf_X3_23 rfl (hs1.mem (i := 0) (by decide) (by decide)) hs1.obj rfl dX3_freeBanks_9 rfl ?_
        refine g_iload_n X 1 rfl dX3_freeBanks_12 rfl ?_
        refine g_aald X (t := 3) rfl (hs1.mem (i := 3) (by decide) (by decide)) hs1.bks ⟨by omega, by omega⟩ (by decide) (if_pos (by omega)) dX3_freeBanks_13 rfl ?_
        have hw_2 : M1 (σ (4 + y)) = .inr (0, [.int (iI (f (6 + 4 * y))), .int (iI (f (6 + 4 * y + 1))), .int (iI (f (6 + 4 * y + 2))), .int (iI (f (6 + 4 * y + 3)))]) := (hs1.bank (by omega) (by omega))
        refine g_callVN X (ct_X0_beginAnew l (σ (4 + y)) (fBank f y)) (host := "StrideBanks") (As := []) (rest := []) cl_X0 rfl ca_X0_beginAnew rfl wm_X3_38 wi_X0_beginAnew ws_X0_beginAnew wc_X0_beginAnew w0_X0 ⟨by decide, by decide⟩ (hs1.mem (by omega) (by omega)) hw_2 (by decide) ⟨by decide, by decide⟩ rfl dX3_freeBanks_14 rfl ⟨rfl, (hs1.mem (by omega) (by omega)), (hw_2).trans (cBank_eq _ _)⟩ (fun r1 L1 M_3 hq => ?_)
        obtain ⟨rfl, rfl, hM_4, fr_5⟩ := hq
        obtain ⟨c_7, hc_8⟩ : ∃ x : Int → Int, x = setB f y bkBegin := ⟨_, rfl⟩
        have hs_6 : isSt ca L M_3 (σ) c_7 := by rw [hc_8]; exact hs1.toB (by omega) (by omega) hM_4 fr_5
        refine g_st (st' := []) rfl ?_
        refine g_iinc X (lv' := [(1, .int (iI (y + 1))), (0, .ref (σ 0))]) 1 rfl (by decide) rfl dX3_freeBanks_17 rfl ?_
        refine g_goto X (n := 2) dX3_freeBanks_20 (by decide) ?_
        refine g_lv (lv' := [(0, .ref (σ 0)), (1, .int (iI (y + 1)))]) [1, 0] rfl ?_
        exact ih (k + 1) _ _ _ (by omega) (by omega) (by rw [hc_8, hf, hy]; rfl) hs_6 (hfr.trans (outS.one (σ := σ) (i := (4 + y)) (by omega) (by omega) fr_5)) (by omega)
  refine g_iconst X (z := 0) dX3_freeBanks_0 rfl ?_
  refine g_istore_n X (lv' := [(1, .int (iI 0)), (0, .ref (σ 0))]) (by decide) rfl dX3_freeBanks_1 rfl ?_
  refine g_lv (lv' := [(0, .ref (σ 0)), (1, .int (iI 0))]) [1, 0] rfl ?_
  exact lp 20 0 _ _ _ rfl (by decide) rfl hs (outS.refl _ _) (by decide)
set_option maxRecDepth 100000 in
set_option maxHeartbeats 4000000 in
theorem ct_X3_copySettings (l : Launch) (σ : Int → Nat) (c : Int → Int) (τ : Int → Nat) (d : Int → Int) : Ct l yX3_copySettings cX3_copySettings 2 none 1 0 0 (fun ca av L M => av = [.ref (σ 0), .ref (τ 0)] ∧ isSt ca L M σ c ∧ isSt ca L M τ d ∧ (∀ i j, 0 ≤ i → i < 24 → 0 ≤ j → j < 24 → σ i ≠ τ j)) (fun ca av L M r L1 M1 => r = none ∧ L = L1 ∧ isSt ca L M1 σ (cpS c d) ∧ isSt ca L M1 τ d ∧ outS σ M M1) := by
  refine Ct_of (own := RX3) (by decide) rfl (by rintro _ _ _ _ ⟨rfl, _⟩; exact Nat.le_of_ble_eq_true rfl) ?_
  rintro p e s m args below meth cod D ca A av L M ⟨rfl, hs, ht, hd⟩ X hret hname
  refine g_lv (lv' := [(0, .ref (σ 0)), (1, .ref (τ 0))]) [0, 1] rfl ?_
  refine g_aload_n X 1 rfl dX3_copySettings_0 rfl ?_
  refine g_get X cl_X3 0 (by decide) wf_X3_9 rfl (ht.mem (i := 0) (by decide) (by decide)) ht.obj rfl dX3_copySettings_1 rfl ?_
  refine g_iconst X (z := 0) dX3_copySettings_4 rfl ?_
  refine g_aload_n X 0 rfl dX3_copySettings_5 rfl ?_
  refine g_get X cl_X3 0 (by decide) wf_X3_9 rfl (hs.mem (i := 0) (by decide) (by decide)) hs.obj rfl dX3_copySettings_6 rfl ?_
  refine g_iconst X (z := 0) dX3_copySettings_9 rfl ?_
  refine g_iconst X (z := 4) dX3_copySettings_10 rfl ?_
  refine g_copyI X wm_X3_30 (hs.mem (i := 1) (by decide) (by decide)) hs.set (ht.mem (i := 1) (by decide) (by decide)) ht.set ⟨by decide, by decide⟩ dX3_copySettings_11 rfl (fun M_1 hM_2 fr_3 => ?_)
  obtain ⟨c_5, hc_6⟩ : ∃ x : Int → Int, x = cpS c d := ⟨_, rfl⟩
  have hs_4 : isSt ca L M_1 (σ) c_5 := by rw [hc_6]; exact hs.putSet (c' := cpS c d) (hM_2.trans (cI_ext (fun k k0 k1 => (if_pos (by omega : 0 ≤ (k : Int) ∧ (k : Int) < 4)).symm))) fr_3 (fun k hk => if_neg hk)
  have hs_7 : isSt ca L M_1 (τ) d := ht.kept (fun i i0 i1 => fr_3 _ (Ne.symm (hd 1 i (by omega) (by omega) i0 i1)))
  exact g_vret X hret ⟨Nat.le_of_ble_eq_true rfl, Nat.le_of_ble_eq_true rfl⟩ dX3_copySettings_14 ⟨rfl, rfl, hc_6 ▸ hs_4, hs_7, (outS.one (σ := σ) (i := 1) (by omega) (by omega) fr_3)⟩
set_option maxRecDepth 100000 in
set_option maxHeartbeats 4000000 in
theorem ct_X3_copy (l : Launch) (σ : Int → Nat) (c : Int → Int) (τ : Int → Nat) (d : Int → Int) : Ct l yX3_copy cX3_copy 3 none 2 0 0 (fun ca av L M => av = [.ref (σ 0), .ref (τ 0)] ∧ isSt ca L M σ c ∧ isSt ca L M τ d ∧ (∀ i j, 0 ≤ i → i < 24 → 0 ≤ j → j < 24 → σ i ≠ τ j)) (fun ca av L M r L1 M1 => r = none ∧ L = L1 ∧ isSt ca L M1 σ d ∧ isSt ca L M1 τ d ∧ outS σ M M1) := by
  refine Ct_of (own := RX3) (by decide) rfl (by rintro _ _ _ _ ⟨rfl, _⟩; exact Nat.le_of_ble_eq_true rfl) ?_
  rintro p e s m args below meth cod D ca A av L M ⟨rfl, hs, ht, hd⟩ X hret hname
  refine g_lv (lv' := [(0, .ref (σ 0)), (1, .ref (τ 0))]) [0, 1] rfl ?_
  generalize hQ : MQ below _ args s _ _ A = Q
  have lp2 : ∀ (n : Nat) (k : Nat) (y : Int) (M1 : Mem) (f : Int → Int) (hy : y = k) (hk : y ≤ 16) (hf : f = cpB (cpR (cpS c d) d 4) d k) (hs1 : isSt ca L M1 σ f) (ht1 : isSt ca L M1 τ d) (hfr : outS σ M M1) (hm : 16 - y < (n : Int)), G p l e (Rm 2 0 0) s m args below meth cod D A 3 Q 0 0 L M1 35 [(0, .ref (σ 0)), (1, .ref (τ 0)), (2, .int (iI y))] [] := by
    intro n
    induction n with
    | zero =>
      intro k y M1 f hy hk hf hs1 ht1 hfr hm
      exfalso; omega
    | succ n ih =>
      intro k y M1 f hy hk hf hs1 ht1 hfr hm
      refine g_iload_n X 2 rfl dX3_copy_35 rfl ?_
      refine g_bipush X (z := 16) (by decide +kernel) dX3_copy_36 rfl ?_
      refine g_icmp_ge X ⟨by omega, by omega⟩ ⟨by decide, by decide⟩ (tgt := 62) dX3_copy_38 (by decide) rfl (fun h_1 => ?_) (fun h_1 => ?_)
      · refine g_aload_n X 0 rfl dX3_copy_62 rfl ?_
        refine g_aload_n X 1 rfl dX3_copy_63 rfl ?_
        refine g_get X cl_X3 3 (by decide) wf_X3_52 rfl (ht1.mem (i := 0) (by decide) (by decide)) ht1.obj rfl dX3_copy_64 rfl ?_
        refine g_put X cl_X3 3 (by decide) wf_X3_52 rfl (hs1.mem (i := 0) (by decide) (by decide)) hs1.obj rfl rfl rfl (Nat.le_of_ble_eq_true rfl) (fs' := [.ref (σ 1), .ref (σ 2), .ref (σ 3), .int (iI (d 5)), .int (iI (f 4))]) rfl dX3_copy_67 rfl (fun M_2 hM_3 fr_4 => ?_)
        have hM_5 : M_2 (σ 1) = cI ca 4 f := (fr_4 (σ 1) (hs1.ne (i := 1) (j := 0) (by omega) (by omega) (by omega) (by omega) (by omega))).trans hs1.set
        have hM_6 : M_2 (σ 2) = cR ca 5 4 (fun j => if j < 4 then some (σ (20 + j)) else none) := (fr_4 (σ 2) (hs1.ne (i := 2) (j := 0) (by omega) (by omega) (by omega) (by omega) (by omega))).trans hs1.strs
        have hM_7 : M_2 (σ 3) = cR ca 3 16 (fun j => if j < 16 then some (σ (4 + j)) else none) := (fr_4 (σ 3) (hs1.ne (i := 3) (j := 0) (by omega) (by omega) (by omega) (by omega) (by omega))).trans hs1.bks
        have hM_8 : M_2 (τ 0) = .inr (3, [.ref (τ 1), .ref (τ 2), .ref (τ 3), .int (iI (d 5)), .int (iI (d 4))]) := (fr_4 (τ 0) (Ne.symm (hd 0 0 (by omega) (by omega) (by omega) (by omega)))).trans ht1.obj
        have hM_9 : M_2 (τ 1) = cI ca 4 d := (fr_4 (τ 1) (Ne.symm (hd 0 1 (by omega) (by omega) (by omega) (by omega)))).trans ht1.set
        have hM_10 : M_2 (τ 2) = cR ca 5 4 (fun j => if j < 4 then some (τ (20 + j)) else none) := (fr_4 (τ 2) (Ne.symm (hd 0 2 (by omega) (by omega) (by omega) (by omega)))).trans ht1.strs
        have hM_11 : M_2 (τ 3) = cR ca 3 16 (fun j => if j < 16 then some (τ (4 + j)) else none) := (fr_4 (τ 3) (Ne.symm (hd 0 3 (by omega) (by omega) (by omega) (by omega)))).trans ht1.bks
        obtain ⟨c_13, hc_14⟩ : ∃ x : Int → Int, x = up f 5 (d 5) := ⟨_, rfl⟩
        have hs_12 : isSt ca L M_2 (σ) c_13 := by rw [hc_14]; exact hs1.putObj (c' := up f 5 (d 5)) hM_3 fr_4 (fun k h4 h5 => up_ne _ _ h5)
        have hs_15 : isSt ca L M_2 (τ) d := ht1.kept (fun i i0 i1 => fr_4 _ (Ne.symm (hd 0 i (by omega) (by omega) i0 i1)))
        refine g_aload_n X 0 rfl dX3_copy_70 rfl ?_
        refine g_aload_n X 1 rfl dX3_copy_71 rfl ?_
        refine g_get X cl_X3 4 (by decide) wf_X3_56 rfl (hs_15.mem (i := 0) (by decide) (by decide)) hs_15.obj rfl dX3_copy_72 rfl ?_
        refine g_put X cl_X3 4 (by decide) wf_X3_56 rfl (hs_12.mem (i := 0) (by decide) (by decide)) hs_12.obj rfl rfl rfl (Nat.le_of_ble_eq_true rfl) (fs' := [.ref (σ 1), .ref (σ 2), .ref (σ 3), .int (iI (c_13 5)), .int (iI (d 4))]) rfl dX3_copy_75 rfl (fun M_16 hM_17 fr_18 => ?_)
        have hM_19 : M_16 (σ 1) = cI ca 4 c_13 := (fr_18 (σ 1) (hs_12.ne (i := 1) (j := 0) (by omega) (by omega) (by omega) (by omega) (by omega))).trans hs_12.set
        have hM_20 : M_16 (σ 2) = cR ca 5 4 (fun j => if j < 4 then some (σ (20 + j)) else none) := (fr_18 (σ 2) (hs_12.ne (i := 2) (j := 0) (by omega) (by omega) (by omega) (by omega) (by omega))).trans hs_12.strs
        have hM_21 : M_16 (σ 3) = cR ca 3 16 (fun j => if j < 16 then some (σ (4 + j)) else none) := (fr_18 (σ 3) (hs_12.ne (i := 3) (j := 0) (by omega) (by omega) (by omega) (by omega) (by omega))).trans hs_12.bks
        have hM_22 : M_16 (τ 0) = .inr (3, [.ref (τ 1), .ref (τ 2), .ref (τ 3), .int (iI (d 5)), .int (iI (d 4))]) := (fr_18 (τ 0) (Ne.symm (hd 0 0 (by omega) (by omega) (by omega) (by omega)))).trans hs_15.obj
        have hM_23 : M_16 (τ 1) = cI ca 4 d := (fr_18 (τ 1) (Ne.symm (hd 0 1 (by omega) (by omega) (by omega) (by omega)))).trans hs_15.set
        have hM_24 : M_16 (τ 2) = cR ca 5 4 (fun j => if j < 4 then some (τ (20 + j)) else none) := (fr_18 (τ 2) (Ne.symm (hd 0 2 (by omega) (by omega) (by omega) (by omega)))).trans hs_15.strs
        have hM_25 : M_16 (τ 3) = cR ca 3 16 (fun j => if j < 16 then some (τ (4 + j)) else none) := (fr_18 (τ 3) (Ne.symm (hd 0 3 (by omega) (by omega) (by omega) (by omega)))).trans hs_15.bks
        obtain ⟨c_27, hc_28⟩ : ∃ x : Int → Int, x = up c_13 4 (d 4) := ⟨_, rfl⟩
        have hs_26 : isSt ca L M_16 (σ) c_27 := by rw [hc_28]; exact hs_12.putObj (c' := up c_13 4 (d 4)) hM_17 fr_18 (fun k h4 h5 => up_ne _ _ h4)
        have hs_29 : isSt ca L M_16 (τ) d := hs_15.kept (fun i i0 i1 => fr_18 _ (Ne.symm (hd 0 i (by omega) (by omega) i0 i1)))
        subst hQ
        have hfin := hs_26
        rw [hc_28, hc_14, hf, show k = 16 from by omega] at hfin
        exact g_vret X hret ⟨Nat.le_of_ble_eq_true rfl, Nat.le_of_ble_eq_true rfl⟩ dX3_copy_78 ⟨rfl, rfl, hfin.ext (fun k k0 k1 => cp_all (Or.inl ⟨k0, k1⟩)) (fun i k i0 i1 k0 k1 => cp_all (Or.inr ⟨i, k, i0, i1, k0, k1, rfl⟩)), hs_29, ((hfr.trans (outS.one (σ := σ) (i := 0) (by omega) (by omega) fr_4)).trans (outS.one (σ := σ) (i := 0) (by omega) (by omega) fr_18))⟩
      · refine g_aload_n X 0 rfl dX3_copy_41 rfl ?_
        refine g_get X cl_X3 2 (by decide) wf_X3_23 rfl (hs1.mem (i := 0) (by decide) (by decide)) hs1.obj rfl dX3_copy_42 rfl ?_
        refine g_iload_n X 2 rfl dX3_copy_45 rfl ?_
        refine g_aald X (t := 3) rfl (hs1.mem (i := 3) (by decide) (by decide)) hs1.bks ⟨by omega, by omega⟩ (by decide) (if_pos (by omega)) dX3_copy_46 rfl ?_
        have hw_30 : M1 (σ (4 + y)) = .inr (0, [.int (iI (f (6 + 4 * y))), .int (iI (f (6 + 4 * y + 1))), .int (iI (f (6 + 4 * y + 2))), .int (iI (f (6 + 4 * y + 3)))]) := (hs1.bank (by omega) (by omega))
        refine g_aload_n X 1 rfl dX3_copy_47 rfl ?_
        refine g_get X cl_X3 2 (by decide) wf_X3_23 rfl (ht1.mem (i := 0) (by decide) (by decide)) ht1.obj rfl dX3_copy_48 rfl ?_
        refine g_iload_n X 2 rfl dX3_copy_51 rfl ?_
        refine g_aald X (t := 3) rfl (ht1.mem (i := 3) (by decide) (by decide)) ht1.bks ⟨by omega, by omega⟩ (by decide) (if_pos (by omega)) dX3_copy_52 rfl ?_
        have hw_31 : M1 (τ (4 + y)) = .inr (0, [.int (iI (d (6 + 4 * y))), .int (iI (d (6 + 4 * y + 1))), .int (iI (d (6 + 4 * y + 2))), .int (iI (d (6 + 4 * y + 3)))]) := (ht1.bank (by omega) (by omega))
        refine g_callVN X (ct_X0_copy l (σ (4 + y)) (τ (4 + y)) (fBank f y) (fBank d y)) (host := "StrideBanks") (As := [.ref (τ (4 + y))]) (rest := []) cl_X0 rfl ca_X0_copy rfl wm_X3_49 wi_X0_copy ws_X0_copy wc_X0_copy w0_X0 ⟨by decide, by decide⟩ (hs1.mem (by omega) (by omega)) hw_30 (by decide) ⟨by decide, by decide⟩ rfl dX3_copy_53 rfl ⟨rfl, (hs1.mem (by omega) (by omega)), (hw_30).trans (cBank_eq _ _), (ht1.mem (by omega) (by omega)), (hw_31).trans (cBank_eq _ _), (Ne.symm (hd (4 + y) (4 + y) (by omega) (by omega) (by omega) (by omega)))⟩ (fun r1 L1 M_32 hq => ?_)
        obtain ⟨rfl, rfl, hM_33, fr_34⟩ := hq
        obtain ⟨c_36, hc_37⟩ : ∃ x : Int → Int, x = setB f y (fBank d y) := ⟨_, rfl⟩
        have hs_35 : isSt ca L M_32 (σ) c_36 := by rw [hc_37]; exact hs1.toB (by omega) (by omega) hM_33 fr_34
        have hs_38 : isSt ca L M_32 (τ) d := ht1.kept (fun i i0 i1 => fr_34 _ (Ne.symm (hd (4 + y) i (by omega) (by omega) i0 i1)))
        refine g_st (st' := []) rfl ?_
        refine g_iinc X (lv' := [(2, .int (iI (y + 1))), (0, .ref (σ 0)), (1, .ref (τ 0))]) 2 rfl (by decide) rfl dX3_copy_56 rfl ?_
        refine g_goto X (n := 35) dX3_copy_59 (by decide) ?_
        refine g_lv (lv' := [(0, .ref (σ 0)), (1, .ref (τ 0)), (2, .int (iI (y + 1)))]) [1, 2, 0] rfl ?_
        exact ih (k + 1) _ _ _ (by omega) (by omega) (by rw [hc_37, hf, hy]; rfl) hs_35 hs_38 (hfr.trans (outS.one (σ := σ) (i := (4 + y)) (by omega) (by omega) fr_34)) (by omega)
  have lp1 : ∀ (n : Nat) (k : Nat) (y : Int) (M1 : Mem) (f : Int → Int) (hy : y = k) (hk : y ≤ 4) (hf : f = cpR (cpS c d) d k) (hs1 : isSt ca L M1 σ f) (ht1 : isSt ca L M1 τ d) (hfr : outS σ M M1) (hm : 4 - y < (n : Int)), G p l e (Rm 2 0 0) s m args below meth cod D A 3 Q 0 0 L M1 7 [(0, .ref (σ 0)), (1, .ref (τ 0)), (2, .int (iI y))] [] := by
    intro n
    induction n with
    | zero =>
      intro k y M1 f hy hk hf hs1 ht1 hfr hm
      exfalso; omega
    | succ n ih =>
      intro k y M1 f hy hk hf hs1 ht1 hfr hm
      refine g_iload_n X 2 rfl dX3_copy_7 rfl ?_
      refine g_iconst X (z := 4) dX3_copy_8 rfl ?_
      refine g_icmp_ge X ⟨by omega, by omega⟩ ⟨by decide, by decide⟩ (tgt := 33) dX3_copy_9 (by decide) rfl (fun h_39 => ?_) (fun h_39 => ?_)
      · refine g_iconst X (z := 0) dX3_copy_33 rfl ?_
        refine g_istore_n X (lv' := [(2, .int (iI 0)), (0, .ref (σ 0)), (1, .ref (τ 0))]) (by decide) rfl dX3_copy_34 rfl ?_
        refine g_lv (lv' := [(0, .ref (σ 0)), (1, .ref (τ 0)), (2, .int (iI 0))]) [1, 2, 0] rfl ?_
        exact lp2 20 0 _ _ _ rfl (by decide) (by rw [hf, show k = 4 from by omega]; rfl) hs1 ht1 hfr (by decide)
      · refine g_aload_n X 0 rfl dX3_copy_12 rfl ?_
        refine g_get X cl_X3 1 (by decide) wf_X3_17 rfl (hs1.mem (i := 0) (by decide) (by decide)) hs1.obj rfl dX3_copy_13 rfl ?_
        refine g_iload_n X 2 rfl dX3_copy_16 rfl ?_
        refine g_aald X (t := 5) rfl (hs1.mem (i := 2) (by decide) (by decide)) hs1.strs ⟨by omega, by omega⟩ (by decide) (if_pos (by omega)) dX3_copy_17 rfl ?_
        have hw_40 : M1 (σ (20 + y)) = .inr (4, [.int (iI (f (70 + 10 * y))), .int (iI (f (70 + 10 * y + 1))), .int (iI (f (70 + 10 * y + 2))), .int (iI (f (70 + 10 * y + 3))), .int (iI (f (70 + 10 * y + 4))), .int (iI (f (70 + 10 * y + 5))), .int (iI (f (70 + 10 * y + 6))), .int (iI (f (70 + 10 * y + 7)))]) := (hs1.row (by omega) (by omega))
        refine g_aload_n X 1 rfl dX3_copy_18 rfl ?_
        refine g_get X cl_X3 1 (by decide) wf_X3_17 rfl (ht1.mem (i := 0) (by decide) (by decide)) ht1.obj rfl dX3_copy_19 rfl ?_
        refine g_iload_n X 2 rfl dX3_copy_22 rfl ?_
        refine g_aald X (t := 5) rfl (ht1.mem (i := 2) (by decide) (by decide)) ht1.strs ⟨by omega, by omega⟩ (by decide) (if_pos (by omega)) dX3_copy_23 rfl ?_
        have hw_41 : M1 (τ (20 + y)) = .inr (4, [.int (iI (d (70 + 10 * y))), .int (iI (d (70 + 10 * y + 1))), .int (iI (d (70 + 10 * y + 2))), .int (iI (d (70 + 10 * y + 3))), .int (iI (d (70 + 10 * y + 4))), .int (iI (d (70 + 10 * y + 5))), .int (iI (d (70 + 10 * y + 6))), .int (iI (d (70 + 10 * y + 7)))]) := (ht1.row (by omega) (by omega))
        refine g_callVN X (ct_X4_copy l (σ (20 + y)) (τ (20 + y)) (fRow f y) (fRow d y)) (host := "StrideBanks") (As := [.ref (τ (20 + y))]) (rest := []) cl_X4 rfl ca_X4_copy rfl wm_X3_45 wi_X4_copy ws_X4_copy wc_X4_copy w0_X4 ⟨by decide, by decide⟩ (hs1.mem (by omega) (by omega)) hw_40 (by decide) ⟨by decide, by decide⟩ rfl dX3_copy_24 rfl ⟨rfl, (hs1.mem (by omega) (by omega)), (hw_40).trans (cRow_eq _ _), (ht1.mem (by omega) (by omega)), (hw_41).trans (cRow_eq _ _), (Ne.symm (hd (20 + y) (20 + y) (by omega) (by omega) (by omega) (by omega)))⟩ (fun r1 L1 M_42 hq => ?_)
        obtain ⟨rfl, rfl, hM_43, fr_44⟩ := hq
        obtain ⟨c_46, hc_47⟩ : ∃ x : Int → Int, x = setR f y (fRow d y) := ⟨_, rfl⟩
        have hs_45 : isSt ca L M_42 (σ) c_46 := by rw [hc_47]; exact hs1.toR (by omega) (by omega) hM_43 fr_44
        have hs_48 : isSt ca L M_42 (τ) d := ht1.kept (fun i i0 i1 => fr_44 _ (Ne.symm (hd (20 + y) i (by omega) (by omega) i0 i1)))
        refine g_st (st' := []) rfl ?_
        refine g_iinc X (lv' := [(2, .int (iI (y + 1))), (0, .ref (σ 0)), (1, .ref (τ 0))]) 2 rfl (by decide) rfl dX3_copy_27 rfl ?_
        refine g_goto X (n := 7) dX3_copy_30 (by decide) ?_
        refine g_lv (lv' := [(0, .ref (σ 0)), (1, .ref (τ 0)), (2, .int (iI (y + 1)))]) [1, 2, 0] rfl ?_
        exact ih (k + 1) _ _ _ (by omega) (by omega) (by rw [hc_47, hf, hy]; rfl) hs_45 hs_48 (hfr.trans (outS.one (σ := σ) (i := (20 + y)) (by omega) (by omega) fr_44)) (by omega)
  refine g_aload_n X 0 rfl dX3_copy_0 rfl ?_
  refine g_aload_n X 1 rfl dX3_copy_1 rfl ?_
  refine g_callV X (ct_X3_copySettings l σ c τ d) (As := [.ref (τ 0)]) (rest := []) cl_X3 rfl ca_X3_copySettings rfl wm_X3_41 wi_X3_copySettings ws_X3_copySettings wc_X3_copySettings w0_X3 ⟨by decide, by decide⟩ (hs.mem (i := 0) (by decide) (by decide)) hs.obj (by decide) ⟨by decide, by decide⟩ rfl dX3_copy_2 rfl ⟨rfl, hs, ht, hd⟩ (fun r1 L1 M_49 hq => ?_)
  obtain ⟨rfl, rfl, hM_50, hM_51, fr_52⟩ := hq
  obtain ⟨c_54, hc_55⟩ : ∃ x : Int → Int, x = cpS c d := ⟨_, rfl⟩
  have hs_53 : isSt ca L M_49 (σ) c_54 := by rw [hc_55]; exact hM_50
  have hs_56 : isSt ca L M_49 (τ) d := ht.kept (fun i i0 i1 => fr_52 _ (fun j j0 j1 => (hd j i j0 j1 i0 i1).symm))
  refine g_st (st' := []) rfl ?_
  refine g_iconst X (z := 0) dX3_copy_5 rfl ?_
  refine g_istore_n X (lv' := [(2, .int (iI 0)), (0, .ref (σ 0)), (1, .ref (τ 0))]) (by decide) rfl dX3_copy_6 rfl ?_
  refine g_lv (lv' := [(0, .ref (σ 0)), (1, .ref (τ 0)), (2, .int (iI 0))]) [1, 2, 0] rfl ?_
  exact lp1 9 0 _ _ _ rfl (by decide) (by rw [hc_55]; rfl) hs_53 hs_56 fr_52 (by decide)
set_option maxRecDepth 100000 in
set_option maxHeartbeats 4000000 in
theorem ct_X3_beginAnew (l : Launch) (σ : Int → Nat) (c : Int → Int) : Ct l yX3_beginAnew cX3_beginAnew 2 none 2 0 0 (fun ca av L M => av = [.ref (σ 0)] ∧ isSt ca L M σ c ∧ (0 ≤ c 5 ∧ c 5 ≤ 4)) (fun ca av L M r L1 M1 => r = none ∧ L = L1 ∧ isSt ca L M1 σ (bgC c) ∧ outS σ M M1) := by
  refine Ct_of (own := RX3) (by decide) rfl (by rintro _ _ _ _ ⟨rfl, _⟩; exact Nat.le_of_ble_eq_true rfl) ?_
  rintro p e s m args below meth cod D ca A av L M ⟨rfl, hs, h5⟩ X hret hname
  refine g_lv (lv' := [(0, .ref (σ 0))]) [0] rfl ?_
  generalize hQ : MQ below _ args s _ _ A = Q
  have lp : ∀ (n : Nat) (k : Nat) (y : Int) (M1 : Mem) (f : Int → Int) (hy : y = k) (hk : y ≤ c 5) (hf : f = bgR (frK (up c 4 0) 16) k) (hs1 : isSt ca L M1 σ f) (hfr : outS σ M M1) (hm : c 5 - y < (n : Int)), G p l e (Rm 2 0 0) s m args below meth cod D A 2 Q 0 0 L M1 11 [(0, .ref (σ 0)), (1, .int (iI y))] [] := by
    intro n
    induction n with
    | zero =>
      intro k y M1 f hy hk hf hs1 hfr hm
      exfalso; omega
    | succ n ih =>
      intro k y M1 f hy hk hf hs1 hfr hm
      have f5 : f 5 = c 5 := by rw [hf, bgR_low _ (by decide), frK_out _ (by decide) _ (by decide), up_ne _ _ (by decide)]
      refine g_iload_n X 1 rfl dX3_beginAnew_11 rfl ?_
      refine g_aload_n X 0 rfl dX3_beginAnew_12 rfl ?_
      refine g_get X cl_X3 3 (by decide) wf_X3_52 rfl (hs1.mem (i := 0) (by decide) (by decide)) hs1.obj rfl dX3_beginAnew_13 rfl ?_
      refine g_icmp_ge X ⟨by omega, by omega⟩ ⟨by omega, by omega⟩ (tgt := 34) dX3_beginAnew_16 (by decide) rfl (fun h_1 => ?_) (fun h_1 => ?_)
      · subst hQ
        exact g_vret X hret ⟨Nat.le_of_ble_eq_true rfl, Nat.le_of_ble_eq_true rfl⟩ dX3_beginAnew_34 ⟨rfl, rfl, by rw [bgC, show (c 5).toNat = k from by omega, ← hf]; exact hs1, hfr⟩
      · refine g_aload_n X 0 rfl dX3_beginAnew_19 rfl ?_
        refine g_get X cl_X3 1 (by decide) wf_X3_17 rfl (hs1.mem (i := 0) (by decide) (by decide)) hs1.obj rfl dX3_beginAnew_20 rfl ?_
        refine g_iload_n X 1 rfl dX3_beginAnew_23 rfl ?_
        refine g_aald X (t := 5) rfl (hs1.mem (i := 2) (by decide) (by decide)) hs1.strs ⟨by omega, by omega⟩ (by decide) (if_pos (by omega)) dX3_beginAnew_24 rfl ?_
        have hw_2 : M1 (σ (20 + y)) = .inr (4, [.int (iI (f (70 + 10 * y))), .int (iI (f (70 + 10 * y + 1))), .int (iI (f (70 + 10 * y + 2))), .int (iI (f (70 + 10 * y + 3))), .int (iI (f (70 + 10 * y + 4))), .int (iI (f (70 + 10 * y + 5))), .int (iI (f (70 + 10 * y + 6))), .int (iI (f (70 + 10 * y + 7)))]) := (hs1.row (by omega) (by omega))
        refine g_callVN X (ct_X4_beginAnew l (σ (20 + y)) (fRow f y)) (host := "StrideBanks") (As := []) (rest := []) cl_X4 rfl ca_X4_beginAnew rfl wm_X3_62 wi_X4_beginAnew ws_X4_beginAnew wc_X4_beginAnew w0_X4 ⟨by decide, by decide⟩ (hs1.mem (by omega) (by omega)) hw_2 (by decide) ⟨by decide, by decide⟩ rfl dX3_beginAnew_25 rfl ⟨rfl, (hs1.mem (by omega) (by omega)), (hw_2).trans (cRow_eq _ _)⟩ (fun r1 L1 M_3 hq => ?_)
        obtain ⟨rfl, rfl, hM_4, fr_5⟩ := hq
        obtain ⟨c_7, hc_8⟩ : ∃ x : Int → Int, x = setR f y (rwBegin (fRow f y)) := ⟨_, rfl⟩
        have hs_6 : isSt ca L M_3 (σ) c_7 := by rw [hc_8]; exact hs1.toR (by omega) (by omega) hM_4 fr_5
        refine g_st (st' := []) rfl ?_
        refine g_iinc X (lv' := [(1, .int (iI (y + 1))), (0, .ref (σ 0))]) 1 rfl (by decide) rfl dX3_beginAnew_28 rfl ?_
        refine g_goto X (n := 11) dX3_beginAnew_31 (by decide) ?_
        refine g_lv (lv' := [(0, .ref (σ 0)), (1, .int (iI (y + 1)))]) [1, 0] rfl ?_
        exact ih (k + 1) _ _ _ (by omega) (by omega) (by rw [hc_8, hf, hy]; rfl) hs_6 (hfr.trans (outS.one (σ := σ) (i := (20 + y)) (by omega) (by omega) fr_5)) (by omega)
  refine g_aload_n X 0 rfl dX3_beginAnew_0 rfl ?_
  refine g_iconst X (z := 0) dX3_beginAnew_1 rfl ?_
  refine g_put X cl_X3 4 (by decide) wf_X3_56 rfl (hs.mem (i := 0) (by decide) (by decide)) hs.obj rfl rfl rfl (Nat.le_of_ble_eq_true rfl) (fs' := [.ref (σ 1), .ref (σ 2), .ref (σ 3), .int (iI (c 5)), .int (iI 0)]) rfl dX3_beginAnew_2 rfl (fun M_9 hM_10 fr_11 => ?_)
  have hM_12 : M_9 (σ 1) = cI ca 4 c := (fr_11 (σ 1) (hs.ne (i := 1) (j := 0) (by omega) (by omega) (by omega) (by omega) (by omega))).trans hs.set
  have hM_13 : M_9 (σ 2) = cR ca 5 4 (fun j => if j < 4 then some (σ (20 + j)) else none) := (fr_11 (σ 2) (hs.ne (i := 2) (j := 0) (by omega) (by omega) (by omega) (by omega) (by omega))).trans hs.strs
  have hM_14 : M_9 (σ 3) = cR ca 3 16 (fun j => if j < 16 then some (σ (4 + j)) else none) := (fr_11 (σ 3) (hs.ne (i := 3) (j := 0) (by omega) (by omega) (by omega) (by omega) (by omega))).trans hs.bks
  obtain ⟨c_16, hc_17⟩ : ∃ x : Int → Int, x = up c 4 0 := ⟨_, rfl⟩
  have hs_15 : isSt ca L M_9 (σ) c_16 := by rw [hc_17]; exact hs.putObj (c' := up c 4 0) hM_10 fr_11 (fun k h4 h5 => up_ne _ _ h4)
  refine g_aload_n X 0 rfl dX3_beginAnew_5 rfl ?_
  refine g_callV X (ct_X3_freeBanks l σ c_16) (As := []) (rest := []) cl_X3 rfl ca_X3_freeBanks rfl wm_X3_59 wi_X3_freeBanks ws_X3_freeBanks wc_X3_freeBanks w0_X3 ⟨by decide, by decide⟩ (hs_15.mem (i := 0) (by decide) (by decide)) hs_15.obj (by decide) ⟨by decide, by decide⟩ rfl dX3_beginAnew_6 rfl ⟨rfl, hs_15⟩ (fun r1 L1 M_18 hq => ?_)
  obtain ⟨rfl, rfl, hM_19, fr_20⟩ := hq
  obtain ⟨c_22, hc_23⟩ : ∃ x : Int → Int, x = frK c_16 16 := ⟨_, rfl⟩
  have hs_21 : isSt ca L M_18 (σ) c_22 := by rw [hc_23]; exact hM_19
  refine g_st (st' := []) rfl ?_
  refine g_iconst X (z := 0) dX3_beginAnew_9 rfl ?_
  refine g_istore_n X (lv' := [(1, .int (iI 0)), (0, .ref (σ 0))]) (by decide) rfl dX3_beginAnew_10 rfl ?_
  refine g_lv (lv' := [(0, .ref (σ 0)), (1, .int (iI 0))]) [1, 0] rfl ?_
  exact lp 20 0 _ _ _ rfl (by omega) (by rw [hc_23, hc_17]; rfl) hs_21 ((outS.one (σ := σ) (i := 0) (by omega) (by omega) fr_11).trans fr_20) (by omega)
