/-! the reference: small methods -/
set_option maxRecDepth 100000 in
set_option maxHeartbeats 4000000 in
theorem ct_X6_in (l : Launch) (v lo hi : Int) : Ct l yX6_in cX6_in 3 (some .boolean) 0 0 0 (fun ca av L M => av = [.int (iI v), .int (iI lo), .int (iI hi)] ∧ R32 v ∧ R32 lo ∧ R32 hi) (fun ca av L M r L1 M1 => r = some (.int (iI (if lo ≤ v ∧ v ≤ hi then 1 else 0))) ∧ L = L1 ∧ M = M1) := by
  refine Ct_of (own := RX6) (by decide) rfl (by rintro _ _ _ _ ⟨rfl, _⟩; exact Nat.le_of_ble_eq_true rfl) ?_
  rintro p e s m args below meth c D ca A av L M ⟨rfl, hv, hlo, hhi⟩ X hret hname
  refine g_lv (lv' := [(0, .int (iI v)), (1, .int (iI lo)), (2, .int (iI hi))]) [0, 1, 2] rfl ?_
  refine g_iload_n X 0 rfl dX6_in_0 rfl ?_
  refine g_iload_n X 1 rfl dX6_in_1 rfl ?_
  refine g_icmp_lt X hv hlo (tgt := 14) dX6_in_2 (by decide) rfl (fun h_1 => ?_) (fun h_1 => ?_)
  · refine g_iconst X (z := 0) dX6_in_14 rfl ?_
    exact g_zret X hret (by rfl) ⟨Nat.le_of_ble_eq_true rfl, Nat.le_of_ble_eq_true rfl⟩ dX6_in_15 ⟨by rw [if_neg (by omega)], rfl, rfl⟩
  · refine g_iload_n X 0 rfl dX6_in_5 rfl ?_
    refine g_iload_n X 2 rfl dX6_in_6 rfl ?_
    refine g_icmp_gt X hv hhi (tgt := 14) dX6_in_7 (by decide) rfl (fun h_2 => ?_) (fun h_2 => ?_)
    · refine g_iconst X (z := 0) dX6_in_14 rfl ?_
      exact g_zret X hret (by rfl) ⟨Nat.le_of_ble_eq_true rfl, Nat.le_of_ble_eq_true rfl⟩ dX6_in_15 ⟨by rw [if_neg (by omega)], rfl, rfl⟩
    · refine g_iconst X (z := 1) dX6_in_10 rfl ?_
      refine g_goto X (n := 15) dX6_in_11 (by decide) ?_
      exact g_zret X hret (by rfl) ⟨Nat.le_of_ble_eq_true rfl, Nat.le_of_ble_eq_true rfl⟩ dX6_in_15 ⟨by rw [if_pos ⟨by omega, by omega⟩], rfl, rfl⟩
set_option maxRecDepth 100000 in
set_option maxHeartbeats 4000000 in
theorem ct_X5_isIn (l : Launch) (v lo hi : Int) : Ct l yX5_isIn cX5_isIn 3 (some .boolean) 0 0 0 (fun ca av L M => av = [.int (iI v), .int (iI lo), .int (iI hi)] ∧ R32 v ∧ R32 lo ∧ R32 hi) (fun ca av L M r L1 M1 => r = some (.int (iI (if lo ≤ v ∧ v ≤ hi then 1 else 0))) ∧ L = L1 ∧ M = M1) := by
  refine Ct_of (own := RX5) (by decide) rfl (by rintro _ _ _ _ ⟨rfl, _⟩; exact Nat.le_of_ble_eq_true rfl) ?_
  rintro p e s m args below meth c D ca A av L M ⟨rfl, hv, hlo, hhi⟩ X hret hname
  refine g_lv (lv' := [(0, .int (iI v)), (1, .int (iI lo)), (2, .int (iI hi))]) [0, 1, 2] rfl ?_
  refine g_iload_n X 0 rfl dX5_isIn_0 rfl ?_
  refine g_iload_n X 1 rfl dX5_isIn_1 rfl ?_
  refine g_icmp_lt X hv hlo (tgt := 14) dX5_isIn_2 (by decide) rfl (fun h_1 => ?_) (fun h_1 => ?_)
  · refine g_iconst X (z := 0) dX5_isIn_14 rfl ?_
    exact g_zret X hret (by rfl) ⟨Nat.le_of_ble_eq_true rfl, Nat.le_of_ble_eq_true rfl⟩ dX5_isIn_15 ⟨by rw [if_neg (by omega)], rfl, rfl⟩
  · refine g_iload_n X 0 rfl dX5_isIn_5 rfl ?_
    refine g_iload_n X 2 rfl dX5_isIn_6 rfl ?_
    refine g_icmp_gt X hv hhi (tgt := 14) dX5_isIn_7 (by decide) rfl (fun h_2 => ?_) (fun h_2 => ?_)
    · refine g_iconst X (z := 0) dX5_isIn_14 rfl ?_
      exact g_zret X hret (by rfl) ⟨Nat.le_of_ble_eq_true rfl, Nat.le_of_ble_eq_true rfl⟩ dX5_isIn_15 ⟨by rw [if_neg (by omega)], rfl, rfl⟩
    · refine g_iconst X (z := 1) dX5_isIn_10 rfl ?_
      refine g_goto X (n := 15) dX5_isIn_11 (by decide) ?_
      exact g_zret X hret (by rfl) ⟨Nat.le_of_ble_eq_true rfl, Nat.le_of_ble_eq_true rfl⟩ dX5_isIn_15 ⟨by rw [if_pos ⟨by omega, by omega⟩], rfl, rfl⟩
set_option maxRecDepth 100000 in
set_option maxHeartbeats 4000000 in
theorem ct_X6_b (l : Launch) (b : Int) : Ct l yX6_b cX6_b 1 (some .int) 0 0 0 (fun ca av L M => av = [.int (iI b)] ∧ True) (fun ca av L M r L1 M1 => r = some (.int (iI (6 + 4 * b))) ∧ L = L1 ∧ M = M1) := by
  refine Ct_of (own := RX6) (by decide) rfl (by rintro _ _ _ _ ⟨rfl, _⟩; exact Nat.le_of_ble_eq_true rfl) ?_
  rintro p e s m args below meth c D ca A av L M ⟨rfl, _⟩ X hret hname
  refine g_lv (lv' := [(0, .int (iI b))]) [0] rfl ?_
  refine g_bipush X (z := 6) (by decide +kernel) dX6_b_0 rfl ?_
  refine g_iconst X (z := 4) dX6_b_2 rfl ?_
  refine g_iload_n X 0 rfl dX6_b_3 rfl ?_
  refine g_imul X dX6_b_4 rfl ?_
  refine g_iadd X dX6_b_5 rfl ?_
  exact g_iret X hret ⟨Nat.le_of_ble_eq_true rfl, Nat.le_of_ble_eq_true rfl⟩ dX6_b_6 ⟨rfl, rfl, rfl⟩
set_option maxRecDepth 100000 in
set_option maxHeartbeats 4000000 in
theorem ct_X6_m (l : Launch) (i : Int) : Ct l yX6_m cX6_m 1 (some .int) 0 0 0 (fun ca av L M => av = [.int (iI i)] ∧ True) (fun ca av L M r L1 M1 => r = some (.int (iI (70 + 10 * i))) ∧ L = L1 ∧ M = M1) := by
  refine Ct_of (own := RX6) (by decide) rfl (by rintro _ _ _ _ ⟨rfl, _⟩; exact Nat.le_of_ble_eq_true rfl) ?_
  rintro p e s m args below meth c D ca A av L M ⟨rfl, _⟩ X hret hname
  refine g_lv (lv' := [(0, .int (iI i))]) [0] rfl ?_
  refine g_bipush X (z := 70) (by decide +kernel) dX6_m_0 rfl ?_
  refine g_bipush X (z := 10) (by decide +kernel) dX6_m_2 rfl ?_
  refine g_iload_n X 0 rfl dX6_m_4 rfl ?_
  refine g_imul X dX6_m_5 rfl ?_
  refine g_iadd X dX6_m_6 rfl ?_
  exact g_iret X hret ⟨Nat.le_of_ble_eq_true rfl, Nat.le_of_ble_eq_true rfl⟩ dX6_m_7 ⟨rfl, rfl, rfl⟩
set_option maxRecDepth 100000 in
set_option maxHeartbeats 4000000 in
theorem ct_X6_isStream (l : Launch) (μ : Nat → Nat) (q g : Int → Int) (i : Int) : Ct l yX6_isStream cX6_isStream 2 (some .boolean) 1 0 0 (fun ca av L M => av = [.ref (μ 0), .int (iI i)] ∧ MuOk μ L ∧ M (μ 0) = oMd μ q ∧ M (μ 1) = cI ca 110 g ∧ R32 i ∧ (0 ≤ g 5 ∧ g 5 ≤ 4)) (fun ca av L M r L1 M1 => r = some (.int (iI (if 0 ≤ i ∧ i ≤ g 5 - 1 then 1 else 0))) ∧ L = L1 ∧ M = M1) := by
  refine Ct_of (own := RX6) (by decide) rfl (by rintro _ _ _ _ ⟨rfl, _⟩; exact Nat.le_of_ble_eq_true rfl) ?_
  rintro p e s m args below meth c D ca A av L M ⟨rfl, hμ, hMo, hMs, hi, hn⟩ X hret hname
  refine g_lv (lv' := [(0, .ref (μ 0)), (1, .int (iI i))]) [0, 1] rfl ?_
  refine g_iload_n X 1 rfl dX6_isStream_0 rfl ?_
  refine g_iconst X (z := 0) dX6_isStream_1 rfl ?_
  refine g_aload_n X 0 rfl dX6_isStream_2 rfl ?_
  refine g_get X cl_X6 0 (by decide) wf_X6_7 rfl (hμ.mem 0 (by decide)) hMo rfl dX6_isStream_3 rfl ?_
  refine g_iconst X (z := 5) dX6_isStream_6 rfl ?_
  refine g_iald X (hμ.mem 1 (by decide)) hMs ⟨by decide, by decide⟩ (by decide) dX6_isStream_7 rfl ?_
  refine g_iconst X (z := 1) dX6_isStream_8 rfl ?_
  refine g_isub X dX6_isStream_9 rfl ?_
  refine g_callS X (ct_X6_in l i 0 (g 5 - 1)) (As := [.int (iI i), .int (iI 0), .int (iI (g 5 - 1))]) (rest := []) rfl ca_X6_in rfl wm_X6_36 wt_X6_in wc_X6_in w0_X6 ⟨by decide, by decide⟩ (by decide) ⟨by decide, by decide⟩ rfl dX6_isStream_10 rfl ⟨rfl, hi, ⟨by decide, by decide⟩, ⟨by omega, by omega⟩⟩ (fun r1 L1 M1 hq => ?_)
  obtain ⟨rfl, rfl, rfl⟩ := hq
  refine g_st (st' := [.int (iI (if 0 ≤ i ∧ i ≤ (g 5 - 1) then 1 else 0))]) rfl ?_
  exact g_zret X hret nar_ite ⟨Nat.le_of_ble_eq_true rfl, Nat.le_of_ble_eq_true rfl⟩ dX6_isStream_13 ⟨rfl, rfl, rfl⟩
set_option maxRecDepth 100000 in
set_option maxHeartbeats 4000000 in
theorem ct_X6_isPrime (l : Launch) (v : Int) : Ct l yX6_isPrime cX6_isPrime 3 (some .boolean) 0 0 0 (fun ca av L M => av = [.int (iI v)] ∧ 2 ≤ v ∧ v ≤ 16) (fun ca av L M r L1 M1 => r = some (.int (iI (if isPr v then 1 else 0))) ∧ L = L1 ∧ M = M1) := by
  refine Ct_of (own := RX6) (by decide) rfl (by rintro _ _ _ _ ⟨rfl, _⟩; exact Nat.le_of_ble_eq_true rfl) ?_
  rintro p e s m args below meth c D ca A av L M ⟨rfl, h2, h16⟩ X hret hname
  refine g_lv (lv' := [(0, .int (iI v))]) [0] rfl ?_
  generalize hQ : MQ below _ args s _ _ A = Q
  have lp : ∀ (n : Nat) (k : Nat) (z y : Int) (hy : y = (k : Int) + 2) (hyv : y ≤ v) (hz : z = if ptB v k = true then 1 else 0) (hm : v - y < (n : Int)), G p l e (Rm 0 0 0) s m args below meth c D A 3 Q 0 0 L M 4 [(0, .int (iI v)), (1, .int (iI z)), (2, .int (iI y))] [] := by
    intro n
    induction n with
    | zero =>
      intro k z y hy hyv hz hm
      exfalso; omega
    | succ n ih =>
      intro k z y hy hyv hz hm
      have hz2 : z = 0 ∨ z = 1 := by rw [hz]; split <;> simp
      have hvy := Int.emod_nonneg v (by omega : y ≠ 0)
      have hvy2 := Int.emod_lt_of_pos v (by omega : 0 < y)
      refine g_iload_n X 2 rfl dX6_isPrime_4 rfl ?_
      refine g_iload_n X 0 rfl dX6_isPrime_5 rfl ?_
      refine g_icmp_ge X ⟨by omega, by omega⟩ ⟨by omega, by omega⟩ (tgt := 31) dX6_isPrime_6 (by decide) rfl (fun h_1 => ?_) (fun h_1 => ?_)
      · refine g_iload_n X 1 rfl dX6_isPrime_31 rfl ?_
        subst hQ
        exact g_zret X hret (by rcases hz2 with q | q <;> rw [q] <;> rfl) ⟨Nat.le_of_ble_eq_true rfl, Nat.le_of_ble_eq_true rfl⟩ dX6_isPrime_32 ⟨by have e0 : (v - 2).toNat = k := (by omega); simp only [isPr, e0, hz], rfl, rfl⟩
      · refine g_iload_n X 1 rfl dX6_isPrime_9 rfl ?_
        refine g_if_eq X ⟨by omega, by omega⟩ (tgt := 23) dX6_isPrime_10 (by decide) rfl (fun h_2 => ?_) (fun h_2 => ?_)
        · refine g_iconst X (z := 0) dX6_isPrime_23 rfl ?_
          refine g_istore_n X (lv' := [(1, .int (iI 0)), (0, .int (iI v)), (2, .int (iI y))]) (by decide) rfl dX6_isPrime_24 rfl ?_
          refine g_iinc X (lv' := [(2, .int (iI (y + 1))), (1, .int (iI 0)), (0, .int (iI v))]) 2 rfl (by decide) rfl dX6_isPrime_25 rfl ?_
          refine g_goto X (n := 4) dX6_isPrime_28 (by decide) ?_
          refine g_lv (lv' := [(0, .int (iI v)), (1, .int (iI 0)), (2, .int (iI (y + 1)))]) [2, 1, 0] rfl ?_
          exact ih (k + 1) _ _ (by omega) (by omega) ((ptB_next hy hz).2 (by omega)) (by omega)
        · refine g_iload_n X 0 rfl dX6_isPrime_13 rfl ?_
          refine g_iload_n X 2 rfl dX6_isPrime_14 rfl ?_
          refine g_irem X ⟨⟨by omega, by omega⟩, by omega, by omega⟩ dX6_isPrime_15 rfl ?_
          refine g_if_le X ⟨by omega, by omega⟩ (tgt := 23) dX6_isPrime_16 (by decide) rfl (fun h_3 => ?_) (fun h_3 => ?_)
          · refine g_iconst X (z := 0) dX6_isPrime_23 rfl ?_
            refine g_istore_n X (lv' := [(1, .int (iI 0)), (0, .int (iI v)), (2, .int (iI y))]) (by decide) rfl dX6_isPrime_24 rfl ?_
            refine g_iinc X (lv' := [(2, .int (iI (y + 1))), (1, .int (iI 0)), (0, .int (iI v))]) 2 rfl (by decide) rfl dX6_isPrime_25 rfl ?_
            refine g_goto X (n := 4) dX6_isPrime_28 (by decide) ?_
            refine g_lv (lv' := [(0, .int (iI v)), (1, .int (iI 0)), (2, .int (iI (y + 1)))]) [2, 1, 0] rfl ?_
            exact ih (k + 1) _ _ (by omega) (by omega) ((ptB_next hy hz).2 (by omega)) (by omega)
          · refine g_iconst X (z := 1) dX6_isPrime_19 rfl ?_
            refine g_goto X (n := 24) dX6_isPrime_20 (by decide) ?_
            refine g_istore_n X (lv' := [(1, .int (iI 1)), (0, .int (iI v)), (2, .int (iI y))]) (by decide) rfl dX6_isPrime_24 rfl ?_
            refine g_iinc X (lv' := [(2, .int (iI (y + 1))), (1, .int (iI 1)), (0, .int (iI v))]) 2 rfl (by decide) rfl dX6_isPrime_25 rfl ?_
            refine g_goto X (n := 4) dX6_isPrime_28 (by decide) ?_
            refine g_lv (lv' := [(0, .int (iI v)), (1, .int (iI 1)), (2, .int (iI (y + 1)))]) [2, 1, 0] rfl ?_
            exact ih (k + 1) _ _ (by omega) (by omega) ((ptB_next hy hz).1 (by omega) (by omega)) (by omega)
  refine g_iconst X (z := 1) dX6_isPrime_0 rfl ?_
  refine g_istore_n X (lv' := [(1, .int (iI 1)), (0, .int (iI v))]) (by decide) rfl dX6_isPrime_1 rfl ?_
  refine g_iconst X (z := 2) dX6_isPrime_2 rfl ?_
  refine g_istore_n X (lv' := [(2, .int (iI 2)), (1, .int (iI 1)), (0, .int (iI v))]) (by decide) rfl dX6_isPrime_3 rfl ?_
  refine g_lv (lv' := [(0, .int (iI v)), (1, .int (iI 1)), (2, .int (iI 2))]) [2, 1, 0] rfl ?_
  exact lp 20 0 _ _ (by decide) (by omega) (by rfl) (by omega)
set_option maxRecDepth 100000 in
set_option maxHeartbeats 4000000 in
theorem ct_X6_prime (l : Launch) (μ : Nat → Nat) (q g : Int → Int) : Ct l yX6_prime cX6_prime 2 (some .int) 1 0 0 (fun ca av L M => av = [.ref (μ 0)] ∧ MuOk μ L ∧ M (μ 0) = oMd μ q ∧ M (μ 1) = cI ca 110 g ∧ 2 ≤ g 0 ∧ g 0 ≤ 16) (fun ca av L M r L1 M1 => r = some (.int (iI (tGP (g 0)))) ∧ L = L1 ∧ M = M1) := by
  refine Ct_of (own := RX6) (by decide) rfl (by rintro _ _ _ _ ⟨rfl, _⟩; exact Nat.le_of_ble_eq_true rfl) ?_
  rintro p e s m args below meth c D ca A av L M ⟨rfl, hμ, hMo, hMs, h2, h16⟩ X hret hname
  refine g_lv (lv' := [(0, .ref (μ 0))]) [0] rfl ?_
  generalize hQ : MQ below _ args s _ _ A = Q
  have lp : ∀ (n : Nat) (y : Int) (hy2 : 2 ≤ y) (hy16 : y ≤ 16) (hy : tGP y = tGP (g 0)) (hm : y < (n : Int)), G p l e (Rm 1 0 0) s m args below meth c D A 2 Q 0 0 L M 7 [(0, .ref (μ 0)), (1, .int (iI y))] [] := by
    intro n
    induction n with
    | zero =>
      intro y hy2 hy16 hy hm
      exfalso; omega
    | succ n ih =>
      intro y hy2 hy16 hy hm
      refine g_iload_n X 1 rfl dX6_prime_7 rfl ?_
      refine g_callS X (ct_X6_isPrime l y) (As := [.int (iI y)]) (rest := []) rfl ca_X6_isPrime rfl wm_X6_44 wt_X6_isPrime wc_X6_isPrime w0_X6 ⟨by decide, by decide⟩ (by decide) ⟨by decide, by decide⟩ rfl dX6_prime_8 rfl ⟨rfl, by omega, by omega⟩ (fun r1 L1 M1 hq => ?_)
      obtain ⟨rfl, rfl, rfl⟩ := hq
      refine g_st (st' := [.int (iI (if isPr y then 1 else 0))]) rfl ?_
      refine g_if_neb X (tgt := 20) dX6_prime_11 (by decide) rfl (fun h_1 => ?_) (fun h_1 => ?_)
      · refine g_iload_n X 1 rfl dX6_prime_20 rfl ?_
        subst hQ
        exact g_iret X hret ⟨Nat.le_of_ble_eq_true rfl, Nat.le_of_ble_eq_true rfl⟩ dX6_prime_21 ⟨by rw [← hy, (isPr_step (n := y) (by omega) (by omega)).1 h_1], rfl, rfl⟩
      · refine g_iinc X (lv' := [(1, .int (iI (y + (-1)))), (0, .ref (μ 0))]) 1 rfl (by decide) rfl dX6_prime_14 rfl ?_
        refine g_goto X (n := 7) dX6_prime_17 (by decide) ?_
        have hs := (isPr_step (n := y) (by omega) (by omega)).2 h_1
        refine g_lv (lv' := [(0, .ref (μ 0)), (1, .int (iI (y + (-1))))]) [1, 0] rfl ?_
        exact ih _ (by omega) (by omega) (hs.2.trans hy) (by omega)
  refine g_aload_n X 0 rfl dX6_prime_0 rfl ?_
  refine g_get X cl_X6 0 (by decide) wf_X6_7 rfl (hμ.mem 0 (by decide)) hMo rfl dX6_prime_1 rfl ?_
  refine g_iconst X (z := 0) dX6_prime_4 rfl ?_
  refine g_iald X (hμ.mem 1 (by decide)) hMs ⟨by decide, by decide⟩ (by decide) dX6_prime_5 rfl ?_
  refine g_istore_n X (lv' := [(1, .int (iI (g 0))), (0, .ref (μ 0))]) (by decide) rfl dX6_prime_6 rfl ?_
  refine g_lv (lv' := [(0, .ref (μ 0)), (1, .int (iI (g 0)))]) [1, 0] rfl ?_
  exact lp 20 _ (by omega) (by omega) rfl (by omega)
