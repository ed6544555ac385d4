/-! the reference: banks, a request, begins -/
set_option maxRecDepth 100000 in
set_option maxHeartbeats 4000000 in
theorem ct_X6_bankAt (l : Launch) (μ : Nat → Nat) (q g : Int → Int) (a : Int) : Ct l yX6_bankAt cX6_bankAt 3 (some .int) 2 0 0 (fun ca av L M => av = [.ref (μ 0), .int (iI a)] ∧ MuOk μ L ∧ M (μ 0) = oMd μ q ∧ M (μ 1) = cI ca 110 g ∧ InvS g ∧ 0 ≤ a ∧ a ≤ 1000000) (fun ca av L M r L1 M1 => r = some (.int (iI (bkG g a))) ∧ L = L1 ∧ M = M1) := by
  refine Ct_of (own := RX6) (by decide) rfl (by rintro _ _ _ _ ⟨rfl, _⟩; exact Nat.le_of_ble_eq_true rfl) ?_
  rintro p e s m args below meth c D ca A av L M ⟨rfl, hμ, hMo, hMs, hI, ha0, ha1⟩ X hret hname
  refine g_lv (lv' := [(0, .ref (μ 0)), (1, .int (iI a))]) [0, 1] rfl ?_
  obtain ⟨⟨i00, i01⟩, ⟨i10, i11⟩, ⟨i20, i21⟩, ⟨i30, i31⟩, ⟨i40, i41⟩, i50, i51⟩ := id hI
  have hg := tGP_rng i00 i01
  have hd1 := Int.ediv_nonneg ha0 (by omega : 0 ≤ g 0)
  have hd2 := Int.ediv_le_self (g 0) ha0
  refine g_aload_n X 0 rfl dX6_bankAt_0 rfl ?_
  refine g_get X cl_X6 0 (by decide) wf_X6_7 rfl (hμ.mem 0 (by decide)) hMo rfl dX6_bankAt_1 rfl ?_
  refine g_iconst X (z := 0) dX6_bankAt_4 rfl ?_
  refine g_iald X (hμ.mem 1 (by decide)) hMs ⟨by decide, by decide⟩ (by decide) dX6_bankAt_5 rfl ?_
  refine g_istore_n X (lv' := [(2, .int (iI (g 0))), (0, .ref (μ 0)), (1, .int (iI a))]) (by decide) rfl dX6_bankAt_6 rfl ?_
  refine g_aload_n X 1 rfl dX6_bankAt_7 rfl ?_
  refine g_get X cl_X6 0 (by decide) wf_X6_7 rfl (hμ.mem 0 (by decide)) hMo rfl dX6_bankAt_8 rfl ?_
  refine g_iconst X (z := 2) dX6_bankAt_11 rfl ?_
  refine g_iald X (hμ.mem 1 (by decide)) hMs ⟨by decide, by decide⟩ (by decide) dX6_bankAt_12 rfl ?_
  refine g_if_ne X ⟨by omega, by omega⟩ (tgt := 22) dX6_bankAt_13 (by decide) rfl (fun h_1 => ?_) (fun h_1 => ?_)
  · refine g_aload_n X 1 rfl dX6_bankAt_22 rfl ?_
    refine g_get X cl_X6 0 (by decide) wf_X6_7 rfl (hμ.mem 0 (by decide)) hMo rfl dX6_bankAt_23 rfl ?_
    refine g_iconst X (z := 2) dX6_bankAt_26 rfl ?_
    refine g_iald X (hμ.mem 1 (by decide)) hMs ⟨by decide, by decide⟩ (by decide) dX6_bankAt_27 rfl ?_
    refine g_iconst X (z := 1) dX6_bankAt_28 rfl ?_
    refine g_icmp_ne X ⟨by omega, by omega⟩ ⟨by decide, by decide⟩ (tgt := 42) dX6_bankAt_29 (by decide) rfl (fun h_2 => ?_) (fun h_2 => ?_)
    · refine g_iload_n X 2 rfl dX6_bankAt_42 rfl ?_
      refine g_aload_n X 1 rfl dX6_bankAt_43 rfl ?_
      refine g_callV X (ct_X6_prime l μ q g) (As := []) (rest := [.int (iI a)]) cl_X6 rfl ca_X6_prime rfl wm_X6_48 wi_X6_prime ws_X6_prime wc_X6_prime w0_X6 ⟨by decide, by decide⟩ (hμ.mem 0 (by decide)) hMo (Nat.le_of_ble_eq_true rfl) ⟨by decide, by decide⟩ rfl dX6_bankAt_44 rfl ⟨rfl, hμ, hMo, hMs, by omega, by omega⟩ (fun r1 L1 M1 hq => ?_)
      obtain ⟨rfl, rfl, rfl⟩ := hq
      refine g_st (st' := [.int (iI (tGP (g 0))), .int (iI a)]) rfl ?_
      refine g_irem X ⟨⟨by omega, by omega⟩, by omega, by omega⟩ dX6_bankAt_47 rfl ?_
      exact g_iret X hret ⟨Nat.le_of_ble_eq_true rfl, Nat.le_of_ble_eq_true rfl⟩ dX6_bankAt_48 ⟨by rw [bkG, if_neg (by omega), if_neg (by omega)], rfl, rfl⟩
    · refine g_iload_n X 2 rfl dX6_bankAt_32 rfl ?_
      refine g_iload_n X 2 rfl dX6_bankAt_33 rfl ?_
      refine g_iload_n X 0 rfl dX6_bankAt_34 rfl ?_
      refine g_idiv X ⟨⟨by omega, by omega⟩, by omega, by omega⟩ dX6_bankAt_35 rfl ?_
      refine g_iadd X dX6_bankAt_36 rfl ?_
      refine g_iload_n X 0 rfl dX6_bankAt_37 rfl ?_
      refine g_irem X ⟨⟨by omega, by omega⟩, by omega, by omega⟩ dX6_bankAt_38 rfl ?_
      refine g_goto X (n := 48) dX6_bankAt_39 (by decide) ?_
      exact g_iret X hret ⟨Nat.le_of_ble_eq_true rfl, Nat.le_of_ble_eq_true rfl⟩ dX6_bankAt_48 ⟨by rw [bkG, if_neg (by omega), if_pos (by omega)], rfl, rfl⟩
  · refine g_iload_n X 2 rfl dX6_bankAt_16 rfl ?_
    refine g_iload_n X 0 rfl dX6_bankAt_17 rfl ?_
    refine g_irem X ⟨⟨by omega, by omega⟩, by omega, by omega⟩ dX6_bankAt_18 rfl ?_
    refine g_goto X (n := 48) dX6_bankAt_19 (by decide) ?_
    exact g_iret X hret ⟨Nat.le_of_ble_eq_true rfl, Nat.le_of_ble_eq_true rfl⟩ dX6_bankAt_48 ⟨by rw [bkG, if_pos (by omega)], rfl, rfl⟩
set_option maxRecDepth 100000 in
set_option maxHeartbeats 4000000 in
theorem ct_X6_asks (l : Launch) (μ : Nat → Nat) (q g : Int → Int) (i : Int) : Ct l yX6_asks cX6_asks 4 (some .int) 3 0 0 (fun ca av L M => av = [.ref (μ 0), .int (iI i)] ∧ MuOk μ L ∧ M (μ 0) = oMd μ q ∧ M (μ 1) = cI ca 110 g ∧ Inv g ∧ 0 ≤ i ∧ i < g 5 ∧ 0 < g (70 + 10 * i + 3)) (fun ca av L M r L1 M1 => r = some (.int (iI (asksR g i))) ∧ L = L1 ∧ M1 (μ 1) = cI ca 110 (asksG g i) ∧ ∀ b, b ≠ μ 1 → M1 b = M b) := by
  refine Ct_of (own := RX6) (by decide) rfl (by rintro _ _ _ _ ⟨rfl, _⟩; exact Nat.le_of_ble_eq_true rfl) ?_
  rintro p e s m args below meth c D ca A av L M ⟨rfl, hμ, hMo, hMs, hI, hi0, hi1, hleft⟩ X hret hname
  refine g_lv (lv' := [(0, .ref (μ 0)), (1, .int (iI i))]) [0, 1] rfl ?_
  obtain ⟨⟨i00, i01⟩, ⟨i10, i11⟩, ⟨i20, i21⟩, ⟨i30, i31⟩, ⟨i40, i41⟩, i50, i51⟩ := id hI.1
  obtain ⟨⟨r00, r01⟩, ⟨r10, r11⟩, ⟨r20, r21⟩, ⟨r30, r31⟩, ⟨r40, r41⟩, r5⟩ := hI.2.2 i hi0 hi1
  have hbk := bkG_rng hI.1 (g (70 + 10 * i + 4))
  have hfb := hI.2.1 _ hbk.1 hbk.2.2
  refine g_iload_n X 1 rfl dX6_asks_0 rfl ?_
  refine g_callS X (ct_X6_m l i) (As := [.int (iI i)]) (rest := []) rfl ca_X6_m rfl wm_X6_52 wt_X6_m wc_X6_m w0_X6 ⟨by decide, by decide⟩ (by decide) ⟨by decide, by decide⟩ rfl dX6_asks_1 rfl ⟨rfl, trivial⟩ (fun r1 L1 M1 hq => ?_)
  obtain ⟨rfl, rfl, rfl⟩ := hq
  refine g_st (st' := [.int (iI (70 + 10 * i))]) rfl ?_
  refine g_istore_n X (lv' := [(2, .int (iI (70 + 10 * i))), (0, .ref (μ 0)), (1, .int (iI i))]) (by decide) rfl dX6_asks_4 rfl ?_
  refine g_aload_n X 1 rfl dX6_asks_5 rfl ?_
  refine g_aload_n X 1 rfl dX6_asks_6 rfl ?_
  refine g_get X cl_X6 0 (by decide) wf_X6_7 rfl (hμ.mem 0 (by decide)) hMo rfl dX6_asks_7 rfl ?_
  refine g_iload_n X 0 rfl dX6_asks_10 rfl ?_
  refine g_iconst X (z := 4) dX6_asks_11 rfl ?_
  refine g_iadd X dX6_asks_12 rfl ?_
  refine g_iald X (hμ.mem 1 (by decide)) hMs ⟨by omega, by omega⟩ (by decide) dX6_asks_13 rfl ?_
  refine g_callV X (ct_X6_bankAt l μ q g (g ((70 + 10 * i) + 4))) (As := [.int (iI (g ((70 + 10 * i) + 4)))]) (rest := []) cl_X6 rfl ca_X6_bankAt rfl wm_X6_56 wi_X6_bankAt ws_X6_bankAt wc_X6_bankAt w0_X6 ⟨by decide, by decide⟩ (hμ.mem 0 (by decide)) hMo (by decide) ⟨by decide, by decide⟩ rfl dX6_asks_14 rfl ⟨rfl, hμ, hMo, hMs, hI.1, by omega, by omega⟩ (fun r1 L1 M1 hq => ?_)
  obtain ⟨rfl, rfl, rfl⟩ := hq
  refine g_st (st' := [.int (iI (bkG g (g ((70 + 10 * i) + 4))))]) rfl ?_
  refine g_callS X (ct_X6_b l (bkG g (g ((70 + 10 * i) + 4)))) (As := [.int (iI (bkG g (g ((70 + 10 * i) + 4))))]) (rest := []) rfl ca_X6_b rfl wm_X6_59 wt_X6_b wc_X6_b w0_X6 ⟨by decide, by decide⟩ (by decide) ⟨by decide, by decide⟩ rfl dX6_asks_17 rfl ⟨rfl, trivial⟩ (fun r1 L1 M1 hq => ?_)
  obtain ⟨rfl, rfl, rfl⟩ := hq
  refine g_st (st' := [.int (iI (6 + 4 * bkG g (g ((70 + 10 * i) + 4))))]) rfl ?_
  refine g_istore_n X (lv' := [(3, .int (iI (6 + 4 * bkG g (g ((70 + 10 * i) + 4))))), (2, .int (iI (70 + 10 * i))), (0, .ref (μ 0)), (1, .int (iI i))]) (by decide) rfl dX6_asks_20 rfl ?_
  refine g_aload_n X 2 rfl dX6_asks_21 rfl ?_
  refine g_get X cl_X6 0 (by decide) wf_X6_7 rfl (hμ.mem 0 (by decide)) hMo rfl dX6_asks_22 rfl ?_
  refine g_iload_n X 0 rfl dX6_asks_25 rfl ?_
  refine g_iconst X (z := 0) dX6_asks_26 rfl ?_
  refine g_iadd X dX6_asks_27 rfl ?_
  refine g_st (st' := [.int (iI (6 + 4 * bkG g (g ((70 + 10 * i) + 4)))), .ref (μ 1)]) (by rw [Int.add_zero]) ?_
  refine g_iald X (hμ.mem 1 (by decide)) hMs ⟨by omega, by omega⟩ (by decide) dX6_asks_28 rfl ?_
  refine g_aload_n X 2 rfl dX6_asks_29 rfl ?_
  refine g_get X cl_X6 0 (by decide) wf_X6_7 rfl (hμ.mem 0 (by decide)) hMo rfl dX6_asks_30 rfl ?_
  refine g_iconst X (z := 4) dX6_asks_33 rfl ?_
  refine g_iald X (hμ.mem 1 (by decide)) hMs ⟨by decide, by decide⟩ (by decide) dX6_asks_34 rfl ?_
  refine g_icmp_le X ⟨by omega, by omega⟩ ⟨by omega, by omega⟩ (tgt := 94) dX6_asks_35 (by decide) rfl (fun h_1 => ?_) (fun h_1 => ?_)
  · refine g_aload_n X 2 rfl dX6_asks_94 rfl ?_
    refine g_get X cl_X6 0 (by decide) wf_X6_7 rfl (hμ.mem 0 (by decide)) hMo rfl dX6_asks_95 rfl ?_
    refine g_iload_n X 0 rfl dX6_asks_98 rfl ?_
    refine g_iconst X (z := 0) dX6_asks_99 rfl ?_
    refine g_iadd X dX6_asks_100 rfl ?_
    refine g_st (st' := [.int (iI (6 + 4 * bkG g (g ((70 + 10 * i) + 4)))), .ref (μ 1)]) (by rw [Int.add_zero]) ?_
    refine g_aload_n X 2 rfl dX6_asks_101 rfl ?_
    refine g_get X cl_X6 0 (by decide) wf_X6_7 rfl (hμ.mem 0 (by decide)) hMo rfl dX6_asks_102 rfl ?_
    refine g_iconst X (z := 4) dX6_asks_105 rfl ?_
    refine g_iald X (hμ.mem 1 (by decide)) hMs ⟨by decide, by decide⟩ (by decide) dX6_asks_106 rfl ?_
    refine g_aload_n X 2 rfl dX6_asks_107 rfl ?_
    refine g_get X cl_X6 0 (by decide) wf_X6_7 rfl (hμ.mem 0 (by decide)) hMo rfl dX6_asks_108 rfl ?_
    refine g_iconst X (z := 1) dX6_asks_111 rfl ?_
    refine g_iald X (hμ.mem 1 (by decide)) hMs ⟨by decide, by decide⟩ (by decide) dX6_asks_112 rfl ?_
    refine g_iadd X dX6_asks_113 rfl ?_
    refine g_iast X (hμ.mem 1 (by decide)) hMs ⟨by omega, by omega⟩ (by decide) dX6_asks_114 rfl (fun M_2 hM_3 fr_4 => ?_)
    obtain ⟨g_5, hg_6⟩ : ∃ x : Int → Int, x = up g (6 + 4 * bkG g (g ((70 + 10 * i) + 4))) (g 4 + g 1) := ⟨_, rfl⟩
    rw [← hg_6] at hM_3
    have hM_7 : M_2 (μ 0) = .inr (6, [.ref (μ 1), .ref (μ 2), .ref (μ 3), .ref (μ 4), .ref (μ 5), .ref (μ 6), .ref (μ 7), .ref (μ 8), .int (iI (q 0)), .int (iI (q 1)), .int (iI (q 2)), .int (iI (q 3))]) := (fr_4 (μ 0) (hμ.ne (i := 0) (j := 1) (by decide) (by decide) (by decide))).trans hMo
    refine g_aload_n X 2 rfl dX6_asks_115 rfl ?_
    refine g_get X cl_X6 0 (by decide) wf_X6_7 rfl (hμ.mem 0 (by decide)) hM_7 rfl dX6_asks_116 rfl ?_
    refine g_iload_n X 0 rfl dX6_asks_119 rfl ?_
    refine g_iconst X (z := 1) dX6_asks_120 rfl ?_
    refine g_iadd X dX6_asks_121 rfl ?_
    refine g_iload_n X 3 rfl dX6_asks_122 rfl ?_
    refine g_iast X (hμ.mem 1 (by decide)) hM_3 ⟨by omega, by omega⟩ (by decide) dX6_asks_123 rfl (fun M_8 hM_9 fr_10 => ?_)
    obtain ⟨g_11, hg_12⟩ : ∃ x : Int → Int, x = up g_5 ((6 + 4 * bkG g (g ((70 + 10 * i) + 4))) + 1) i := ⟨_, rfl⟩
    rw [← hg_12] at hM_9
    have hM_13 : M_8 (μ 0) = .inr (6, [.ref (μ 1), .ref (μ 2), .ref (μ 3), .ref (μ 4), .ref (μ 5), .ref (μ 6), .ref (μ 7), .ref (μ 8), .int (iI (q 0)), .int (iI (q 1)), .int (iI (q 2)), .int (iI (q 3))]) := (fr_10 (μ 0) (hμ.ne (i := 0) (j := 1) (by decide) (by decide) (by decide))).trans hM_7
    refine g_aload_n X 2 rfl dX6_asks_124 rfl ?_
    refine g_get X cl_X6 0 (by decide) wf_X6_7 rfl (hμ.mem 0 (by decide)) hM_13 rfl dX6_asks_125 rfl ?_
    refine g_iload_n X 0 rfl dX6_asks_128 rfl ?_
    refine g_iconst X (z := 2) dX6_asks_129 rfl ?_
    refine g_iadd X dX6_asks_130 rfl ?_
    refine g_dup2 X rfl rfl dX6_asks_131 rfl ?_
    refine g_iald X (hμ.mem 1 (by decide)) hM_9 ⟨by omega, by omega⟩ (by decide) dX6_asks_132 rfl ?_
    have hr_14 : g_11 ((6 + 4 * bkG g (g ((70 + 10 * i) + 4))) + 2) = g ((6 + 4 * bkG g (g ((70 + 10 * i) + 4))) + 2) := by rw [hg_12, up_ne _ _ (by omega), hg_6, up_ne _ _ (by omega)]
    refine g_st (st' := [.int (iI (g ((6 + 4 * bkG g (g ((70 + 10 * i) + 4))) + 2))), .int (iI ((6 + 4 * bkG g (g ((70 + 10 * i) + 4))) + 2)), .ref (μ 1)]) (by rw [hr_14]) ?_
    refine g_iconst X (z := 1) dX6_asks_133 rfl ?_
    refine g_iadd X dX6_asks_134 rfl ?_
    refine g_iast X (hμ.mem 1 (by decide)) hM_9 ⟨by omega, by omega⟩ (by decide) dX6_asks_135 rfl (fun M_15 hM_16 fr_17 => ?_)
    obtain ⟨g_18, hg_19⟩ : ∃ x : Int → Int, x = up g_11 ((6 + 4 * bkG g (g ((70 + 10 * i) + 4))) + 2) (g ((6 + 4 * bkG g (g ((70 + 10 * i) + 4))) + 2) + 1) := ⟨_, rfl⟩
    rw [← hg_19] at hM_16
    have hM_20 : M_15 (μ 0) = .inr (6, [.ref (μ 1), .ref (μ 2), .ref (μ 3), .ref (μ 4), .ref (μ 5), .ref (μ 6), .ref (μ 7), .ref (μ 8), .int (iI (q 0)), .int (iI (q 1)), .int (iI (q 2)), .int (iI (q 3))]) := (fr_17 (μ 0) (hμ.ne (i := 0) (j := 1) (by decide) (by decide) (by decide))).trans hM_13
    refine g_aload_n X 2 rfl dX6_asks_136 rfl ?_
    refine g_get X cl_X6 0 (by decide) wf_X6_7 rfl (hμ.mem 0 (by decide)) hM_20 rfl dX6_asks_137 rfl ?_
    refine g_iload_n X 1 rfl dX6_asks_140 rfl ?_
    refine g_iconst X (z := 5) dX6_asks_141 rfl ?_
    refine g_iadd X dX6_asks_142 rfl ?_
    refine g_aload_n X 2 rfl dX6_asks_143 rfl ?_
    refine g_get X cl_X6 0 (by decide) wf_X6_7 rfl (hμ.mem 0 (by decide)) hM_20 rfl dX6_asks_144 rfl ?_
    refine g_iload_n X 1 rfl dX6_asks_147 rfl ?_
    refine g_iconst X (z := 4) dX6_asks_148 rfl ?_
    refine g_iadd X dX6_asks_149 rfl ?_
    refine g_iald X (hμ.mem 1 (by decide)) hM_16 ⟨by omega, by omega⟩ (by decide) dX6_asks_150 rfl ?_
    have hr_21 : g_18 ((70 + 10 * i) + 4) = g ((70 + 10 * i) + 4) := by rw [hg_19, up_ne _ _ (by omega), hg_12, up_ne _ _ (by omega), hg_6, up_ne _ _ (by omega)]
    refine g_st (st' := [.int (iI (g ((70 + 10 * i) + 4))), .int (iI ((70 + 10 * i) + 5)), .ref (μ 1)]) (by rw [hr_21]) ?_
    refine g_iast X (hμ.mem 1 (by decide)) hM_16 ⟨by omega, by omega⟩ (by decide) dX6_asks_151 rfl (fun M_22 hM_23 fr_24 => ?_)
    obtain ⟨g_25, hg_26⟩ : ∃ x : Int → Int, x = up g_18 ((70 + 10 * i) + 5) (g ((70 + 10 * i) + 4)) := ⟨_, rfl⟩
    rw [← hg_26] at hM_23
    have hM_27 : M_22 (μ 0) = .inr (6, [.ref (μ 1), .ref (μ 2), .ref (μ 3), .ref (μ 4), .ref (μ 5), .ref (μ 6), .ref (μ 7), .ref (μ 8), .int (iI (q 0)), .int (iI (q 1)), .int (iI (q 2)), .int (iI (q 3))]) := (fr_24 (μ 0) (hμ.ne (i := 0) (j := 1) (by decide) (by decide) (by decide))).trans hM_20
    refine g_aload_n X 2 rfl dX6_asks_152 rfl ?_
    refine g_get X cl_X6 0 (by decide) wf_X6_7 rfl (hμ.mem 0 (by decide)) hM_27 rfl dX6_asks_153 rfl ?_
    refine g_iload_n X 1 rfl dX6_asks_156 rfl ?_
    refine g_iconst X (z := 4) dX6_asks_157 rfl ?_
    refine g_iadd X dX6_asks_158 rfl ?_
    refine g_aload_n X 2 rfl dX6_asks_159 rfl ?_
    refine g_get X cl_X6 0 (by decide) wf_X6_7 rfl (hμ.mem 0 (by decide)) hM_27 rfl dX6_asks_160 rfl ?_
    refine g_iload_n X 1 rfl dX6_asks_163 rfl ?_
    refine g_iconst X (z := 4) dX6_asks_164 rfl ?_
    refine g_iadd X dX6_asks_165 rfl ?_
    refine g_iald X (hμ.mem 1 (by decide)) hM_23 ⟨by omega, by omega⟩ (by decide) dX6_asks_166 rfl ?_
    have hr_28 : g_25 ((70 + 10 * i) + 4) = g ((70 + 10 * i) + 4) := by rw [hg_26, up_ne _ _ (by omega), hg_19, up_ne _ _ (by omega), hg_12, up_ne _ _ (by omega), hg_6, up_ne _ _ (by omega)]
    refine g_st (st' := [.int (iI (g ((70 + 10 * i) + 4))), .int (iI ((70 + 10 * i) + 4)), .ref (μ 1)]) (by rw [hr_28]) ?_
    refine g_aload_n X 2 rfl dX6_asks_167 rfl ?_
    refine g_get X cl_X6 0 (by decide) wf_X6_7 rfl (hμ.mem 0 (by decide)) hM_27 rfl dX6_asks_168 rfl ?_
    refine g_iload_n X 1 rfl dX6_asks_171 rfl ?_
    refine g_iconst X (z := 1) dX6_asks_172 rfl ?_
    refine g_iadd X dX6_asks_173 rfl ?_
    refine g_iald X (hμ.mem 1 (by decide)) hM_23 ⟨by omega, by omega⟩ (by decide) dX6_asks_174 rfl ?_
    have hr_29 : g_25 ((70 + 10 * i) + 1) = g ((70 + 10 * i) + 1) := by rw [hg_26, up_ne _ _ (by omega), hg_19, up_ne _ _ (by omega), hg_12, up_ne _ _ (by omega), hg_6, up_ne _ _ (by omega)]
    refine g_st (st' := [.int (iI (g ((70 + 10 * i) + 1))), .int (iI (g ((70 + 10 * i) + 4))), .int (iI ((70 + 10 * i) + 4)), .ref (μ 1)]) (by rw [hr_29]) ?_
    refine g_iadd X dX6_asks_175 rfl ?_
    refine g_sipush X (z := 4096) (by decide +kernel) dX6_asks_176 rfl ?_
    refine g_irem X ⟨⟨by omega, by omega⟩, by omega, by omega⟩ dX6_asks_179 rfl ?_
    refine g_iast X (hμ.mem 1 (by decide)) hM_23 ⟨by omega, by omega⟩ (by decide) dX6_asks_180 rfl (fun M_30 hM_31 fr_32 => ?_)
    obtain ⟨g_33, hg_34⟩ : ∃ x : Int → Int, x = up g_25 ((70 + 10 * i) + 4) ((g ((70 + 10 * i) + 4) + g ((70 + 10 * i) + 1)) % 4096) := ⟨_, rfl⟩
    rw [← hg_34] at hM_31
    have hM_35 : M_30 (μ 0) = .inr (6, [.ref (μ 1), .ref (μ 2), .ref (μ 3), .ref (μ 4), .ref (μ 5), .ref (μ 6), .ref (μ 7), .ref (μ 8), .int (iI (q 0)), .int (iI (q 1)), .int (iI (q 2)), .int (iI (q 3))]) := (fr_32 (μ 0) (hμ.ne (i := 0) (j := 1) (by decide) (by decide) (by decide))).trans hM_27
    refine g_aload_n X 2 rfl dX6_asks_181 rfl ?_
    refine g_get X cl_X6 0 (by decide) wf_X6_7 rfl (hμ.mem 0 (by decide)) hM_35 rfl dX6_asks_182 rfl ?_
    refine g_iload_n X 1 rfl dX6_asks_185 rfl ?_
    refine g_iconst X (z := 3) dX6_asks_186 rfl ?_
    refine g_iadd X dX6_asks_187 rfl ?_
    refine g_dup2 X rfl rfl dX6_asks_188 rfl ?_
    refine g_iald X (hμ.mem 1 (by decide)) hM_31 ⟨by omega, by omega⟩ (by decide) dX6_asks_189 rfl ?_
    have hr_36 : g_33 ((70 + 10 * i) + 3) = g ((70 + 10 * i) + 3) := by rw [hg_34, up_ne _ _ (by omega), hg_26, up_ne _ _ (by omega), hg_19, up_ne _ _ (by omega), hg_12, up_ne _ _ (by omega), hg_6, up_ne _ _ (by omega)]
    refine g_st (st' := [.int (iI (g ((70 + 10 * i) + 3))), .int (iI ((70 + 10 * i) + 3)), .ref (μ 1)]) (by rw [hr_36]) ?_
    refine g_iconst X (z := 1) dX6_asks_190 rfl ?_
    refine g_isub X dX6_asks_191 rfl ?_
    refine g_iast X (hμ.mem 1 (by decide)) hM_31 ⟨by omega, by omega⟩ (by decide) dX6_asks_192 rfl (fun M_37 hM_38 fr_39 => ?_)
    obtain ⟨g_40, hg_41⟩ : ∃ x : Int → Int, x = up g_33 ((70 + 10 * i) + 3) (g ((70 + 10 * i) + 3) - 1) := ⟨_, rfl⟩
    rw [← hg_41] at hM_38
    have hM_42 : M_37 (μ 0) = .inr (6, [.ref (μ 1), .ref (μ 2), .ref (μ 3), .ref (μ 4), .ref (μ 5), .ref (μ 6), .ref (μ 7), .ref (μ 8), .int (iI (q 0)), .int (iI (q 1)), .int (iI (q 2)), .int (iI (q 3))]) := (fr_39 (μ 0) (hμ.ne (i := 0) (j := 1) (by decide) (by decide) (by decide))).trans hM_35
    refine g_aload_n X 2 rfl dX6_asks_193 rfl ?_
    refine g_get X cl_X6 0 (by decide) wf_X6_7 rfl (hμ.mem 0 (by decide)) hM_42 rfl dX6_asks_194 rfl ?_
    refine g_iload_n X 1 rfl dX6_asks_197 rfl ?_
    refine g_bipush X (z := 8) (by decide +kernel) dX6_asks_198 rfl ?_
    refine g_iadd X dX6_asks_200 rfl ?_
    refine g_aload_n X 2 rfl dX6_asks_201 rfl ?_
    refine g_get X cl_X6 0 (by decide) wf_X6_7 rfl (hμ.mem 0 (by decide)) hM_42 rfl dX6_asks_202 rfl ?_
    refine g_iload_n X 1 rfl dX6_asks_205 rfl ?_
    refine g_iconst X (z := 3) dX6_asks_206 rfl ?_
    refine g_iadd X dX6_asks_207 rfl ?_
    refine g_iald X (hμ.mem 1 (by decide)) hM_38 ⟨by omega, by omega⟩ (by decide) dX6_asks_208 rfl ?_
    have hr_43 : g_40 ((70 + 10 * i) + 3) = g ((70 + 10 * i) + 3) - 1 := by rw [hg_41, up_eq]
    refine g_st (st' := [.int (iI (g ((70 + 10 * i) + 3) - 1)), .int (iI ((70 + 10 * i) + 8)), .ref (μ 1)]) (by rw [hr_43]) ?_
    refine g_if_ne X ⟨by omega, by omega⟩ (tgt := 221) dX6_asks_209 (by decide) rfl (fun h_44 => ?_) (fun h_44 => ?_)
    · refine g_iconst X (z := -1) dX6_asks_221 rfl ?_
      refine g_iast X (hμ.mem 1 (by decide)) hM_38 ⟨by omega, by omega⟩ (by decide) dX6_asks_222 rfl (fun M_45 hM_46 fr_47 => ?_)
      obtain ⟨g_48, hg_49⟩ : ∃ x : Int → Int, x = up g_40 ((70 + 10 * i) + 8) (-1) := ⟨_, rfl⟩
      rw [← hg_49] at hM_46
      have hM_50 : M_45 (μ 0) = .inr (6, [.ref (μ 1), .ref (μ 2), .ref (μ 3), .ref (μ 4), .ref (μ 5), .ref (μ 6), .ref (μ 7), .ref (μ 8), .int (iI (q 0)), .int (iI (q 1)), .int (iI (q 2)), .int (iI (q 3))]) := (fr_47 (μ 0) (hμ.ne (i := 0) (j := 1) (by decide) (by decide) (by decide))).trans hM_42
      refine g_iconst X (z := 1) dX6_asks_223 rfl ?_
      exact g_iret X hret ⟨Nat.le_of_ble_eq_true rfl, Nat.le_of_ble_eq_true rfl⟩ dX6_asks_224 ⟨by rw [asksR, if_neg (by omega)], rfl, (hM_46).trans (by rw [hg_49, hg_41, hg_34, hg_26, hg_19, hg_12, hg_6, asksG, if_neg (by omega), if_neg (by omega)]), fun b hb => ((fr_47 b hb).trans ((fr_39 b hb).trans ((fr_32 b hb).trans ((fr_24 b hb).trans ((fr_17 b hb).trans ((fr_10 b hb).trans (fr_4 b hb)))))))⟩
    · refine g_aload_n X 2 rfl dX6_asks_212 rfl ?_
      refine g_get X cl_X6 0 (by decide) wf_X6_7 rfl (hμ.mem 0 (by decide)) hM_42 rfl dX6_asks_213 rfl ?_
      refine g_iconst X (z := 4) dX6_asks_216 rfl ?_
      refine g_iald X (hμ.mem 1 (by decide)) hM_38 ⟨by decide, by decide⟩ (by decide) dX6_asks_217 rfl ?_
      have hr_51 : g_40 4 = g 4 := by rw [hg_41, up_ne _ _ (by omega), hg_34, up_ne _ _ (by omega), hg_26, up_ne _ _ (by omega), hg_19, up_ne _ _ (by omega), hg_12, up_ne _ _ (by omega), hg_6, up_ne _ _ (by omega)]
      refine g_st (st' := [.int (iI (g 4)), .int (iI ((70 + 10 * i) + 8)), .ref (μ 1)]) (by rw [hr_51]) ?_
      refine g_goto X (n := 222) dX6_asks_218 (by decide) ?_
      refine g_iast X (hμ.mem 1 (by decide)) hM_38 ⟨by omega, by omega⟩ (by decide) dX6_asks_222 rfl (fun M_52 hM_53 fr_54 => ?_)
      obtain ⟨g_55, hg_56⟩ : ∃ x : Int → Int, x = up g_40 ((70 + 10 * i) + 8) (g 4) := ⟨_, rfl⟩
      rw [← hg_56] at hM_53
      have hM_57 : M_52 (μ 0) = .inr (6, [.ref (μ 1), .ref (μ 2), .ref (μ 3), .ref (μ 4), .ref (μ 5), .ref (μ 6), .ref (μ 7), .ref (μ 8), .int (iI (q 0)), .int (iI (q 1)), .int (iI (q 2)), .int (iI (q 3))]) := (fr_54 (μ 0) (hμ.ne (i := 0) (j := 1) (by decide) (by decide) (by decide))).trans hM_42
      refine g_iconst X (z := 1) dX6_asks_223 rfl ?_
      exact g_iret X hret ⟨Nat.le_of_ble_eq_true rfl, Nat.le_of_ble_eq_true rfl⟩ dX6_asks_224 ⟨by rw [asksR, if_neg (by omega)], rfl, (hM_53).trans (by rw [hg_56, hg_41, hg_34, hg_26, hg_19, hg_12, hg_6, asksG, if_neg (by omega), if_pos (by omega)]), fun b hb => ((fr_54 b hb).trans ((fr_39 b hb).trans ((fr_32 b hb).trans ((fr_24 b hb).trans ((fr_17 b hb).trans ((fr_10 b hb).trans (fr_4 b hb)))))))⟩
  · refine g_aload_n X 2 rfl dX6_asks_38 rfl ?_
    refine g_get X cl_X6 0 (by decide) wf_X6_7 rfl (hμ.mem 0 (by decide)) hMo rfl dX6_asks_39 rfl ?_
    refine g_iload_n X 1 rfl dX6_asks_42 rfl ?_
    refine g_bipush X (z := 6) (by decide +kernel) dX6_asks_43 rfl ?_
    refine g_iadd X dX6_asks_45 rfl ?_
    refine g_dup2 X rfl rfl dX6_asks_46 rfl ?_
    refine g_iald X (hμ.mem 1 (by decide)) hMs ⟨by omega, by omega⟩ (by decide) dX6_asks_47 rfl ?_
    refine g_iconst X (z := 1) dX6_asks_48 rfl ?_
    refine g_iadd X dX6_asks_49 rfl ?_
    refine g_iast X (hμ.mem 1 (by decide)) hMs ⟨by omega, by omega⟩ (by decide) dX6_asks_50 rfl (fun M_58 hM_59 fr_60 => ?_)
    obtain ⟨g_61, hg_62⟩ : ∃ x : Int → Int, x = up g ((70 + 10 * i) + 6) (g ((70 + 10 * i) + 6) + 1) := ⟨_, rfl⟩
    rw [← hg_62] at hM_59
    have hM_63 : M_58 (μ 0) = .inr (6, [.ref (μ 1), .ref (μ 2), .ref (μ 3), .ref (μ 4), .ref (μ 5), .ref (μ 6), .ref (μ 7), .ref (μ 8), .int (iI (q 0)), .int (iI (q 1)), .int (iI (q 2)), .int (iI (q 3))]) := (fr_60 (μ 0) (hμ.ne (i := 0) (j := 1) (by decide) (by decide) (by decide))).trans hMo
    refine g_aload_n X 2 rfl dX6_asks_51 rfl ?_
    refine g_get X cl_X6 0 (by decide) wf_X6_7 rfl (hμ.mem 0 (by decide)) hM_63 rfl dX6_asks_52 rfl ?_
    refine g_iload_n X 1 rfl dX6_asks_55 rfl ?_
    refine g_bipush X (z := 7) (by decide +kernel) dX6_asks_56 rfl ?_
    refine g_iadd X dX6_asks_58 rfl ?_
    refine g_dup2 X rfl rfl dX6_asks_59 rfl ?_
    refine g_iald X (hμ.mem 1 (by decide)) hM_59 ⟨by omega, by omega⟩ (by decide) dX6_asks_60 rfl ?_
    have hr_64 : g_61 ((70 + 10 * i) + 7) = g ((70 + 10 * i) + 7) := by rw [hg_62, up_ne _ _ (by omega)]
    refine g_st (st' := [.int (iI (g ((70 + 10 * i) + 7))), .int (iI ((70 + 10 * i) + 7)), .ref (μ 1)]) (by rw [hr_64]) ?_
    refine g_aload_n X 2 rfl dX6_asks_61 rfl ?_
    refine g_get X cl_X6 0 (by decide) wf_X6_7 rfl (hμ.mem 0 (by decide)) hM_63 rfl dX6_asks_62 rfl ?_
    refine g_iload_n X 0 rfl dX6_asks_65 rfl ?_
    refine g_iconst X (z := 1) dX6_asks_66 rfl ?_
    refine g_iadd X dX6_asks_67 rfl ?_
    refine g_iald X (hμ.mem 1 (by decide)) hM_59 ⟨by omega, by omega⟩ (by decide) dX6_asks_68 rfl ?_
    have hr_65 : g_61 ((6 + 4 * bkG g (g ((70 + 10 * i) + 4))) + 1) = g ((6 + 4 * bkG g (g ((70 + 10 * i) + 4))) + 1) := by rw [hg_62, up_ne _ _ (by omega)]
    refine g_st (st' := [.int (iI (g ((6 + 4 * bkG g (g ((70 + 10 * i) + 4))) + 1))), .int (iI (g ((70 + 10 * i) + 7))), .int (iI ((70 + 10 * i) + 7)), .ref (μ 1)]) (by rw [hr_65]) ?_
    refine g_iload_n X 3 rfl dX6_asks_69 rfl ?_
    refine g_icmp_ne X ⟨by omega, by omega⟩ ⟨by omega, by omega⟩ (tgt := 77) dX6_asks_70 (by decide) rfl (fun h_66 => ?_) (fun h_66 => ?_)
    · refine g_iconst X (z := 1) dX6_asks_77 rfl ?_
      refine g_iadd X dX6_asks_78 rfl ?_
      refine g_iast X (hμ.mem 1 (by decide)) hM_59 ⟨by omega, by omega⟩ (by decide) dX6_asks_79 rfl (fun M_67 hM_68 fr_69 => ?_)
      obtain ⟨g_70, hg_71⟩ : ∃ x : Int → Int, x = up g_61 ((70 + 10 * i) + 7) (g ((70 + 10 * i) + 7) + 1) := ⟨_, rfl⟩
      rw [← hg_71] at hM_68
      have hM_72 : M_67 (μ 0) = .inr (6, [.ref (μ 1), .ref (μ 2), .ref (μ 3), .ref (μ 4), .ref (μ 5), .ref (μ 6), .ref (μ 7), .ref (μ 8), .int (iI (q 0)), .int (iI (q 1)), .int (iI (q 2)), .int (iI (q 3))]) := (fr_69 (μ 0) (hμ.ne (i := 0) (j := 1) (by decide) (by decide) (by decide))).trans hM_63
      refine g_aload_n X 2 rfl dX6_asks_80 rfl ?_
      refine g_get X cl_X6 0 (by decide) wf_X6_7 rfl (hμ.mem 0 (by decide)) hM_72 rfl dX6_asks_81 rfl ?_
      refine g_iload_n X 0 rfl dX6_asks_84 rfl ?_
      refine g_iconst X (z := 3) dX6_asks_85 rfl ?_
      refine g_iadd X dX6_asks_86 rfl ?_
      refine g_dup2 X rfl rfl dX6_asks_87 rfl ?_
      refine g_iald X (hμ.mem 1 (by decide)) hM_68 ⟨by omega, by omega⟩ (by decide) dX6_asks_88 rfl ?_
      have hr_73 : g_70 ((6 + 4 * bkG g (g ((70 + 10 * i) + 4))) + 3) = g ((6 + 4 * bkG g (g ((70 + 10 * i) + 4))) + 3) := by rw [hg_71, up_ne _ _ (by omega), hg_62, up_ne _ _ (by omega)]
      refine g_st (st' := [.int (iI (g ((6 + 4 * bkG g (g ((70 + 10 * i) + 4))) + 3))), .int (iI ((6 + 4 * bkG g (g ((70 + 10 * i) + 4))) + 3)), .ref (μ 1)]) (by rw [hr_73]) ?_
      refine g_iconst X (z := 1) dX6_asks_89 rfl ?_
      refine g_iadd X dX6_asks_90 rfl ?_
      refine g_iast X (hμ.mem 1 (by decide)) hM_68 ⟨by omega, by omega⟩ (by decide) dX6_asks_91 rfl (fun M_74 hM_75 fr_76 => ?_)
      obtain ⟨g_77, hg_78⟩ : ∃ x : Int → Int, x = up g_70 ((6 + 4 * bkG g (g ((70 + 10 * i) + 4))) + 3) (g ((6 + 4 * bkG g (g ((70 + 10 * i) + 4))) + 3) + 1) := ⟨_, rfl⟩
      rw [← hg_78] at hM_75
      have hM_79 : M_74 (μ 0) = .inr (6, [.ref (μ 1), .ref (μ 2), .ref (μ 3), .ref (μ 4), .ref (μ 5), .ref (μ 6), .ref (μ 7), .ref (μ 8), .int (iI (q 0)), .int (iI (q 1)), .int (iI (q 2)), .int (iI (q 3))]) := (fr_76 (μ 0) (hμ.ne (i := 0) (j := 1) (by decide) (by decide) (by decide))).trans hM_72
      refine g_iconst X (z := 0) dX6_asks_92 rfl ?_
      exact g_iret X hret ⟨Nat.le_of_ble_eq_true rfl, Nat.le_of_ble_eq_true rfl⟩ dX6_asks_93 ⟨by rw [asksR, if_pos (by omega)], rfl, (hM_75).trans (by rw [hg_78, hg_71, hg_62, asksG, if_pos (by omega), if_neg (by omega)]), fun b hb => ((fr_76 b hb).trans ((fr_69 b hb).trans (fr_60 b hb)))⟩
    · refine g_iconst X (z := 0) dX6_asks_73 rfl ?_
      refine g_goto X (n := 78) dX6_asks_74 (by decide) ?_
      refine g_iadd X dX6_asks_78 rfl ?_
      refine g_st (st' := [.int (iI (g ((70 + 10 * i) + 7))), .int (iI ((70 + 10 * i) + 7)), .ref (μ 1)]) (by rw [Int.add_zero]) ?_
      refine g_iast X (hμ.mem 1 (by decide)) hM_59 ⟨by omega, by omega⟩ (by decide) dX6_asks_79 rfl (fun M_80 hM_81 fr_82 => ?_)
      obtain ⟨g_83, hg_84⟩ : ∃ x : Int → Int, x = up g_61 ((70 + 10 * i) + 7) (g ((70 + 10 * i) + 7)) := ⟨_, rfl⟩
      rw [← hg_84] at hM_81
      have hM_85 : M_80 (μ 0) = .inr (6, [.ref (μ 1), .ref (μ 2), .ref (μ 3), .ref (μ 4), .ref (μ 5), .ref (μ 6), .ref (μ 7), .ref (μ 8), .int (iI (q 0)), .int (iI (q 1)), .int (iI (q 2)), .int (iI (q 3))]) := (fr_82 (μ 0) (hμ.ne (i := 0) (j := 1) (by decide) (by decide) (by decide))).trans hM_63
      refine g_aload_n X 2 rfl dX6_asks_80 rfl ?_
      refine g_get X cl_X6 0 (by decide) wf_X6_7 rfl (hμ.mem 0 (by decide)) hM_85 rfl dX6_asks_81 rfl ?_
      refine g_iload_n X 0 rfl dX6_asks_84 rfl ?_
      refine g_iconst X (z := 3) dX6_asks_85 rfl ?_
      refine g_iadd X dX6_asks_86 rfl ?_
      refine g_dup2 X rfl rfl dX6_asks_87 rfl ?_
      refine g_iald X (hμ.mem 1 (by decide)) hM_81 ⟨by omega, by omega⟩ (by decide) dX6_asks_88 rfl ?_
      have hr_86 : g_83 ((6 + 4 * bkG g (g ((70 + 10 * i) + 4))) + 3) = g ((6 + 4 * bkG g (g ((70 + 10 * i) + 4))) + 3) := by rw [hg_84, up_ne _ _ (by omega), hg_62, up_ne _ _ (by omega)]
      refine g_st (st' := [.int (iI (g ((6 + 4 * bkG g (g ((70 + 10 * i) + 4))) + 3))), .int (iI ((6 + 4 * bkG g (g ((70 + 10 * i) + 4))) + 3)), .ref (μ 1)]) (by rw [hr_86]) ?_
      refine g_iconst X (z := 1) dX6_asks_89 rfl ?_
      refine g_iadd X dX6_asks_90 rfl ?_
      refine g_iast X (hμ.mem 1 (by decide)) hM_81 ⟨by omega, by omega⟩ (by decide) dX6_asks_91 rfl (fun M_87 hM_88 fr_89 => ?_)
      obtain ⟨g_90, hg_91⟩ : ∃ x : Int → Int, x = up g_83 ((6 + 4 * bkG g (g ((70 + 10 * i) + 4))) + 3) (g ((6 + 4 * bkG g (g ((70 + 10 * i) + 4))) + 3) + 1) := ⟨_, rfl⟩
      rw [← hg_91] at hM_88
      have hM_92 : M_87 (μ 0) = .inr (6, [.ref (μ 1), .ref (μ 2), .ref (μ 3), .ref (μ 4), .ref (μ 5), .ref (μ 6), .ref (μ 7), .ref (μ 8), .int (iI (q 0)), .int (iI (q 1)), .int (iI (q 2)), .int (iI (q 3))]) := (fr_89 (μ 0) (hμ.ne (i := 0) (j := 1) (by decide) (by decide) (by decide))).trans hM_85
      refine g_iconst X (z := 0) dX6_asks_92 rfl ?_
      exact g_iret X hret ⟨Nat.le_of_ble_eq_true rfl, Nat.le_of_ble_eq_true rfl⟩ dX6_asks_93 ⟨by rw [asksR, if_pos (by omega)], rfl, (hM_88).trans (by rw [hg_91, hg_84, hg_62, asksG, if_pos (by omega), if_pos (by omega), Int.add_zero]), fun b hb => ((fr_89 b hb).trans ((fr_82 b hb).trans (fr_60 b hb)))⟩
