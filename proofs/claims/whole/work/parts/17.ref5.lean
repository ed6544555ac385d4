/-! the reference: changes -/
set_option maxRecDepth 100000 in
set_option maxHeartbeats 4000000 in
theorem ct_X6_puts (l : Launch) (μ : Nat → Nat) (q g : Int → Int) (a b c0 : Int) : Ct l yX6_puts cX6_puts 5 (some .int) 2 0 0 (fun ca av L M => av = [.ref (μ 0), .int (iI a), .int (iI b), .int (iI c0)] ∧ MuOk μ L ∧ M (μ 0) = oMd μ q ∧ M (μ 1) = cI ca 110 g ∧ 0 ≤ g 5 ∧ g 5 < 4) (fun ca av L M r L1 M1 => r = some (.int (iI (g 5))) ∧ L = L1 ∧ M1 (μ 1) = cI ca 110 (putsG g a b c0) ∧ ∀ b, b ≠ μ 1 → M1 b = M b) := by
  refine Ct_of (own := RX6) (by decide) rfl (by rintro _ _ _ _ ⟨rfl, _⟩; exact Nat.le_of_ble_eq_true rfl) ?_
  rintro p e s m args below meth c D ca A av L M ⟨rfl, hμ, hMo, hMs, h50, h51⟩ X hret hname
  refine g_lv (lv' := [(0, .ref (μ 0)), (1, .int (iI a)), (2, .int (iI b)), (3, .int (iI c0))]) [0, 1, 2, 3] rfl ?_
  refine g_aload_n X 0 rfl dX6_puts_0 rfl ?_
  refine g_get X cl_X6 0 (by decide) wf_X6_7 rfl (hμ.mem 0 (by decide)) hMo rfl dX6_puts_1 rfl ?_
  refine g_iconst X (z := 5) dX6_puts_4 rfl ?_
  refine g_iald X (hμ.mem 1 (by decide)) hMs ⟨by decide, by decide⟩ (by decide) dX6_puts_5 rfl ?_
  refine g_istore X (lv' := [(4, .int (iI (g 5))), (0, .ref (μ 0)), (1, .int (iI a)), (2, .int (iI b)), (3, .int (iI c0))]) (by decide) rfl dX6_puts_6 rfl ?_
  refine g_aload_n X 1 rfl dX6_puts_8 rfl ?_
  refine g_get X cl_X6 0 (by decide) wf_X6_7 rfl (hμ.mem 0 (by decide)) hMo rfl dX6_puts_9 rfl ?_
  refine g_iload X 0 rfl dX6_puts_12 rfl ?_
  refine g_callS X (ct_X6_m l (g 5)) (As := [.int (iI (g 5))]) (rest := [.ref (μ 1)]) rfl ca_X6_m rfl wm_X6_52 wt_X6_m wc_X6_m w0_X6 ⟨by decide, by decide⟩ (Nat.le_of_ble_eq_true rfl) ⟨by decide, by decide⟩ rfl dX6_puts_14 rfl ⟨rfl, trivial⟩ (fun r1 L1 M1 hq => ?_)
  obtain ⟨rfl, rfl, rfl⟩ := hq
  refine g_st (st' := [.int (iI (70 + 10 * g 5)), .ref (μ 1)]) rfl ?_
  refine g_iconst X (z := 0) dX6_puts_17 rfl ?_
  refine g_iadd X dX6_puts_18 rfl ?_
  refine g_st (st' := [.int (iI (70 + 10 * g 5)), .ref (μ 1)]) (by rw [Int.add_zero]) ?_
  refine g_iload_n X 2 rfl dX6_puts_19 rfl ?_
  refine g_iast X (hμ.mem 1 (by decide)) hMs ⟨by omega, by omega⟩ (by decide) dX6_puts_20 rfl (fun M_1 hM_2 fr_3 => ?_)
  obtain ⟨g_4, hg_5⟩ : ∃ x : Int → Int, x = up g (70 + 10 * g 5) a := ⟨_, rfl⟩
  rw [← hg_5] at hM_2
  have hM_6 : M_1 (μ 0) = .inr (6, [.ref (μ 1), .ref (μ 2), .ref (μ 3), .ref (μ 4), .ref (μ 5), .ref (μ 6), .ref (μ 7), .ref (μ 8), .int (iI (q 0)), .int (iI (q 1)), .int (iI (q 2)), .int (iI (q 3))]) := (fr_3 (μ 0) (hμ.ne (i := 0) (j := 1) (by decide) (by decide) (by decide))).trans hMo
  refine g_aload_n X 1 rfl dX6_puts_21 rfl ?_
  refine g_get X cl_X6 0 (by decide) wf_X6_7 rfl (hμ.mem 0 (by decide)) hM_6 rfl dX6_puts_22 rfl ?_
  refine g_iload X 0 rfl dX6_puts_25 rfl ?_
  refine g_callS X (ct_X6_m l (g 5)) (As := [.int (iI (g 5))]) (rest := [.ref (μ 1)]) rfl ca_X6_m rfl wm_X6_52 wt_X6_m wc_X6_m w0_X6 ⟨by decide, by decide⟩ (Nat.le_of_ble_eq_true rfl) ⟨by decide, by decide⟩ rfl dX6_puts_27 rfl ⟨rfl, trivial⟩ (fun r1 L1 M1 hq => ?_)
  obtain ⟨rfl, rfl, rfl⟩ := hq
  refine g_st (st' := [.int (iI (70 + 10 * g 5)), .ref (μ 1)]) rfl ?_
  refine g_iconst X (z := 1) dX6_puts_30 rfl ?_
  refine g_iadd X dX6_puts_31 rfl ?_
  refine g_iload_n X 3 rfl dX6_puts_32 rfl ?_
  refine g_iast X (hμ.mem 1 (by decide)) hM_2 ⟨by omega, by omega⟩ (by decide) dX6_puts_33 rfl (fun M_7 hM_8 fr_9 => ?_)
  obtain ⟨g_10, hg_11⟩ : ∃ x : Int → Int, x = up g_4 ((70 + 10 * g 5) + 1) b := ⟨_, rfl⟩
  rw [← hg_11] at hM_8
  have hM_12 : M_7 (μ 0) = .inr (6, [.ref (μ 1), .ref (μ 2), .ref (μ 3), .ref (μ 4), .ref (μ 5), .ref (μ 6), .ref (μ 7), .ref (μ 8), .int (iI (q 0)), .int (iI (q 1)), .int (iI (q 2)), .int (iI (q 3))]) := (fr_9 (μ 0) (hμ.ne (i := 0) (j := 1) (by decide) (by decide) (by decide))).trans hM_6
  refine g_aload_n X 1 rfl dX6_puts_34 rfl ?_
  refine g_get X cl_X6 0 (by decide) wf_X6_7 rfl (hμ.mem 0 (by decide)) hM_12 rfl dX6_puts_35 rfl ?_
  refine g_iload X 0 rfl dX6_puts_38 rfl ?_
  refine g_callS X (ct_X6_m l (g 5)) (As := [.int (iI (g 5))]) (rest := [.ref (μ 1)]) rfl ca_X6_m rfl wm_X6_52 wt_X6_m wc_X6_m w0_X6 ⟨by decide, by decide⟩ (Nat.le_of_ble_eq_true rfl) ⟨by decide, by decide⟩ rfl dX6_puts_40 rfl ⟨rfl, trivial⟩ (fun r1 L1 M1 hq => ?_)
  obtain ⟨rfl, rfl, rfl⟩ := hq
  refine g_st (st' := [.int (iI (70 + 10 * g 5)), .ref (μ 1)]) rfl ?_
  refine g_iconst X (z := 2) dX6_puts_43 rfl ?_
  refine g_iadd X dX6_puts_44 rfl ?_
  refine g_iload_n X 4 rfl dX6_puts_45 rfl ?_
  refine g_iast X (hμ.mem 1 (by decide)) hM_8 ⟨by omega, by omega⟩ (by decide) dX6_puts_46 rfl (fun M_13 hM_14 fr_15 => ?_)
  obtain ⟨g_16, hg_17⟩ : ∃ x : Int → Int, x = up g_10 ((70 + 10 * g 5) + 2) c0 := ⟨_, rfl⟩
  rw [← hg_17] at hM_14
  have hM_18 : M_13 (μ 0) = .inr (6, [.ref (μ 1), .ref (μ 2), .ref (μ 3), .ref (μ 4), .ref (μ 5), .ref (μ 6), .ref (μ 7), .ref (μ 8), .int (iI (q 0)), .int (iI (q 1)), .int (iI (q 2)), .int (iI (q 3))]) := (fr_15 (μ 0) (hμ.ne (i := 0) (j := 1) (by decide) (by decide) (by decide))).trans hM_12
  refine g_aload_n X 1 rfl dX6_puts_47 rfl ?_
  refine g_iload X 0 rfl dX6_puts_48 rfl ?_
  refine g_callV X (ct_X6_begins l μ q g_16 (g 5)) (As := [.int (iI (g 5))]) (rest := []) cl_X6 rfl ca_X6_begins rfl wm_X6_65 wi_X6_begins ws_X6_begins wc_X6_begins w0_X6 ⟨by decide, by decide⟩ (hμ.mem 0 (by decide)) hM_18 (by decide) ⟨by decide, by decide⟩ rfl dX6_puts_50 rfl ⟨rfl, hμ, hM_18, hM_14, by omega, by omega⟩ (fun r1 L1 M_19 hq => ?_)
  obtain ⟨rfl, rfl, hM_20, fr_21⟩ := hq
  obtain ⟨g_22, hg_23⟩ : ∃ x : Int → Int, x = bgnG g_16 (g 5) := ⟨_, rfl⟩
  rw [← hg_23] at hM_20
  have hM_24 : M_19 (μ 0) = .inr (6, [.ref (μ 1), .ref (μ 2), .ref (μ 3), .ref (μ 4), .ref (μ 5), .ref (μ 6), .ref (μ 7), .ref (μ 8), .int (iI (q 0)), .int (iI (q 1)), .int (iI (q 2)), .int (iI (q 3))]) := (fr_21 (μ 0) (hμ.ne (i := 0) (j := 1) (by decide) (by decide) (by decide))).trans hM_18
  refine g_st (st' := []) rfl ?_
  refine g_aload_n X 1 rfl dX6_puts_53 rfl ?_
  refine g_get X cl_X6 0 (by decide) wf_X6_7 rfl (hμ.mem 0 (by decide)) hM_24 rfl dX6_puts_54 rfl ?_
  refine g_iconst X (z := 5) dX6_puts_57 rfl ?_
  refine g_dup2 X rfl rfl dX6_puts_58 rfl ?_
  refine g_iald X (hμ.mem 1 (by decide)) hM_20 ⟨by decide, by decide⟩ (by decide) dX6_puts_59 rfl ?_
  have hr_25 : g_22 5 = g 5 := by rw [hg_23, bgn_out _ (by omega), hg_17, up_ne _ _ (by omega), hg_11, up_ne _ _ (by omega), hg_5, up_ne _ _ (by omega)]
  refine g_st (st' := [.int (iI (g 5)), .int (iI 5), .ref (μ 1)]) (by rw [hr_25]) ?_
  refine g_iconst X (z := 1) dX6_puts_60 rfl ?_
  refine g_iadd X dX6_puts_61 rfl ?_
  refine g_iast X (hμ.mem 1 (by decide)) hM_20 ⟨by decide, by decide⟩ (by decide) dX6_puts_62 rfl (fun M_26 hM_27 fr_28 => ?_)
  obtain ⟨g_29, hg_30⟩ : ∃ x : Int → Int, x = up g_22 5 (g 5 + 1) := ⟨_, rfl⟩
  rw [← hg_30] at hM_27
  have hM_31 : M_26 (μ 0) = .inr (6, [.ref (μ 1), .ref (μ 2), .ref (μ 3), .ref (μ 4), .ref (μ 5), .ref (μ 6), .ref (μ 7), .ref (μ 8), .int (iI (q 0)), .int (iI (q 1)), .int (iI (q 2)), .int (iI (q 3))]) := (fr_28 (μ 0) (hμ.ne (i := 0) (j := 1) (by decide) (by decide) (by decide))).trans hM_24
  refine g_iload X 0 rfl dX6_puts_63 rfl ?_
  exact g_iret X hret ⟨Nat.le_of_ble_eq_true rfl, Nat.le_of_ble_eq_true rfl⟩ dX6_puts_65 ⟨rfl, rfl, (hM_27).trans (by rw [hg_30, hg_23, hg_17, hg_11, hg_5, putsG]), fun b hb => ((fr_28 b hb).trans ((fr_21 b hb).trans ((fr_15 b hb).trans ((fr_9 b hb).trans (fr_3 b hb)))))⟩
set_option maxRecDepth 100000 in
set_option maxHeartbeats 4000000 in
theorem ct_X6_set (l : Launch) (μ : Nat → Nat) (q g : Int → Int) (sp tr be sa iz rd pa : Int → Int) (k v : Int) : Ct l yX6_set cX6_set 4 (some .int) 3 0 0 (fun ca av L M => av = [.ref (μ 0), .int (iI k), .int (iI v)] ∧ MuOk μ L ∧ M (μ 0) = oMd μ q ∧ M (μ 1) = cI ca 110 g ∧ M (μ 2) = cI ca 110 sp ∧ M (μ 3) = cI ca 110 tr ∧ M (μ 4) = cI ca 660 be ∧ M (μ 5) = cI ca 220 sa ∧ M (μ 6) = cZ ca 2 iz ∧ M (μ 7) = cI ca 33 rd ∧ M (μ 8) = cC ca 60 pa ∧ Inv g ∧ (0 ≤ q 0 ∧ q 0 ≤ 60) ∧ (0 ≤ q 1 ∧ q 1 ≤ 6) ∧ R32 k ∧ R32 v) (fun ca av L M r L1 M1 => r = some (.int (iI (anSet (g, be, sa, iz, pa, q 0, q 1) k v))) ∧ L = L1 ∧ Md ca M1 μ (opSet (g, be, sa, iz, pa, q 0, q 1) k v) ∧ ∀ b, (∀ i, i < 9 → b ≠ μ i) → M1 b = M b) := by
  refine Ct_of (own := RX6) (by decide) rfl (by rintro _ _ _ _ ⟨rfl, _⟩; exact Nat.le_of_ble_eq_true rfl) ?_
  rintro p e s m args below meth c D ca A av L M ⟨rfl, hμ, hMo, hMs, hM2, hM3, hM4, hM5, hM6, hM7, hM8, hI, hq0, hq1, hk, hv⟩ X hret hname
  refine g_lv (lv' := [(0, .ref (μ 0)), (1, .int (iI k)), (2, .int (iI v))]) [0, 1, 2] rfl ?_
  obtain ⟨⟨i00, i01⟩, ⟨i10, i11⟩, ⟨i20, i21⟩, ⟨i30, i31⟩, ⟨i40, i41⟩, i50, i51⟩ := id hI.1
  refine g_iload_n X 1 rfl dX6_set_0 rfl ?_
  refine g_iload_n X 2 rfl dX6_set_1 rfl ?_
  refine g_callS X (ct_X6_isSetting l k v) (As := [.int (iI k), .int (iI v)]) (rest := []) rfl ca_X6_isSetting rfl wm_X6_75 wt_X6_isSetting wc_X6_isSetting w0_X6 ⟨by decide, by decide⟩ (by decide) ⟨by decide, by decide⟩ rfl dX6_set_2 rfl ⟨rfl, hk, hv⟩ (fun r1 L1 M1 hq => ?_)
  obtain ⟨rfl, rfl, rfl⟩ := hq
  refine g_st (st' := [.int (iI (if isSet k v then 1 else 0))]) rfl ?_
  refine g_if_neb X (tgt := 11) dX6_set_5 (by decide) rfl (fun h_1 => ?_) (fun h_1 => ?_)
  · refine g_aload_n X 0 rfl dX6_set_11 rfl ?_
    refine g_callV X (ct_X6_hold l μ q g sp) (As := []) (rest := []) cl_X6 rfl ca_X6_hold rfl wm_X6_79 wi_X6_hold ws_X6_hold wc_X6_hold w0_X6 ⟨by decide, by decide⟩ (hμ.mem 0 (by decide)) hMo (by decide) ⟨by decide, by decide⟩ rfl dX6_set_12 rfl ⟨rfl, hμ, hMo, hMs, hM2⟩ (fun r1 L1 M_2 hq => ?_)
    obtain ⟨rfl, rfl, hM_3, fr_4⟩ := hq
    have hM_5 : M_2 (μ 0) = .inr (6, [.ref (μ 1), .ref (μ 2), .ref (μ 3), .ref (μ 4), .ref (μ 5), .ref (μ 6), .ref (μ 7), .ref (μ 8), .int (iI (q 0)), .int (iI (q 1)), .int (iI (q 2)), .int (iI (q 3))]) := (fr_4 (μ 0) (hμ.ne (i := 0) (j := 2) (by decide) (by decide) (by decide))).trans hMo
    have hM_6 : M_2 (μ 1) = cI ca 110 g := (fr_4 (μ 1) (hμ.ne (i := 1) (j := 2) (by decide) (by decide) (by decide))).trans hMs
    have hM_7 : M_2 (μ 3) = cI ca 110 tr := (fr_4 (μ 3) (hμ.ne (i := 3) (j := 2) (by decide) (by decide) (by decide))).trans hM3
    have hM_8 : M_2 (μ 4) = cI ca 660 be := (fr_4 (μ 4) (hμ.ne (i := 4) (j := 2) (by decide) (by decide) (by decide))).trans hM4
    have hM_9 : M_2 (μ 5) = cI ca 220 sa := (fr_4 (μ 5) (hμ.ne (i := 5) (j := 2) (by decide) (by decide) (by decide))).trans hM5
    have hM_10 : M_2 (μ 6) = cZ ca 2 iz := (fr_4 (μ 6) (hμ.ne (i := 6) (j := 2) (by decide) (by decide) (by decide))).trans hM6
    have hM_11 : M_2 (μ 7) = cI ca 33 rd := (fr_4 (μ 7) (hμ.ne (i := 7) (j := 2) (by decide) (by decide) (by decide))).trans hM7
    have hM_12 : M_2 (μ 8) = cC ca 60 pa := (fr_4 (μ 8) (hμ.ne (i := 8) (j := 2) (by decide) (by decide) (by decide))).trans hM8
    refine g_st (st' := []) rfl ?_
    refine g_aload_n X 0 rfl dX6_set_15 rfl ?_
    refine g_get X cl_X6 0 (by decide) wf_X6_7 rfl (hμ.mem 0 (by decide)) hM_5 rfl dX6_set_16 rfl ?_
    refine g_iload_n X 1 rfl dX6_set_19 rfl ?_
    refine g_iald X (hμ.mem 1 (by decide)) hM_6 ⟨by omega, by omega⟩ (by decide) dX6_set_20 rfl ?_
    refine g_istore_n X (lv' := [(3, .int (iI (g k))), (0, .ref (μ 0)), (1, .int (iI k)), (2, .int (iI v))]) (by decide) rfl dX6_set_21 rfl ?_
    refine g_aload_n X 1 rfl dX6_set_22 rfl ?_
    refine g_get X cl_X6 0 (by decide) wf_X6_7 rfl (hμ.mem 0 (by decide)) hM_5 rfl dX6_set_23 rfl ?_
    refine g_iload_n X 2 rfl dX6_set_26 rfl ?_
    refine g_iload_n X 3 rfl dX6_set_27 rfl ?_
    refine g_iast X (hμ.mem 1 (by decide)) hM_6 ⟨by omega, by omega⟩ (by decide) dX6_set_28 rfl (fun M_13 hM_14 fr_15 => ?_)
    obtain ⟨g_16, hg_17⟩ : ∃ x : Int → Int, x = up g k v := ⟨_, rfl⟩
    rw [← hg_17] at hM_14
    have hM_18 : M_13 (μ 0) = .inr (6, [.ref (μ 1), .ref (μ 2), .ref (μ 3), .ref (μ 4), .ref (μ 5), .ref (μ 6), .ref (μ 7), .ref (μ 8), .int (iI (q 0)), .int (iI (q 1)), .int (iI (q 2)), .int (iI (q 3))]) := (fr_15 (μ 0) (hμ.ne (i := 0) (j := 1) (by decide) (by decide) (by decide))).trans hM_5
    have hM_19 : M_13 (μ 3) = cI ca 110 tr := (fr_15 (μ 3) (hμ.ne (i := 3) (j := 1) (by decide) (by decide) (by decide))).trans hM_7
    have hM_20 : M_13 (μ 4) = cI ca 660 be := (fr_15 (μ 4) (hμ.ne (i := 4) (j := 1) (by decide) (by decide) (by decide))).trans hM_8
    have hM_21 : M_13 (μ 5) = cI ca 220 sa := (fr_15 (μ 5) (hμ.ne (i := 5) (j := 1) (by decide) (by decide) (by decide))).trans hM_9
    have hM_22 : M_13 (μ 6) = cZ ca 2 iz := (fr_15 (μ 6) (hμ.ne (i := 6) (j := 1) (by decide) (by decide) (by decide))).trans hM_10
    have hM_23 : M_13 (μ 7) = cI ca 33 rd := (fr_15 (μ 7) (hμ.ne (i := 7) (j := 1) (by decide) (by decide) (by decide))).trans hM_11
    have hM_24 : M_13 (μ 8) = cC ca 60 pa := (fr_15 (μ 8) (hμ.ne (i := 8) (j := 1) (by decide) (by decide) (by decide))).trans hM_12
    have hM_25 : M_13 (μ 2) = cI ca 110 g := (fr_15 (μ 2) (hμ.ne (i := 2) (j := 1) (by decide) (by decide) (by decide))).trans hM_3
    refine g_aload_n X 1 rfl dX6_set_29 rfl ?_
    refine g_callV X (ct_X6_beginsAnew l μ q g_16) (As := []) (rest := []) cl_X6 rfl ca_X6_beginsAnew rfl wm_X6_82 wi_X6_beginsAnew ws_X6_beginsAnew wc_X6_beginsAnew w0_X6 ⟨by decide, by decide⟩ (hμ.mem 0 (by decide)) hM_18 (by decide) ⟨by decide, by decide⟩ rfl dX6_set_30 rfl ⟨rfl, hμ, hM_18, hM_14, by rw [hg_17, up_ne _ _ (by omega)]; omega, by rw [hg_17, up_ne _ _ (by omega)]; omega⟩ (fun r1 L1 M_26 hq => ?_)
    obtain ⟨rfl, rfl, hM_27, fr_28⟩ := hq
    have hM_29 : M_26 (μ 0) = .inr (6, [.ref (μ 1), .ref (μ 2), .ref (μ 3), .ref (μ 4), .ref (μ 5), .ref (μ 6), .ref (μ 7), .ref (μ 8), .int (iI (q 0)), .int (iI (q 1)), .int (iI (q 2)), .int (iI (q 3))]) := (fr_28 (μ 0) (hμ.ne (i := 0) (j := 1) (by decide) (by decide) (by decide))).trans hM_18
    have hM_30 : M_26 (μ 3) = cI ca 110 tr := (fr_28 (μ 3) (hμ.ne (i := 3) (j := 1) (by decide) (by decide) (by decide))).trans hM_19
    have hM_31 : M_26 (μ 4) = cI ca 660 be := (fr_28 (μ 4) (hμ.ne (i := 4) (j := 1) (by decide) (by decide) (by decide))).trans hM_20
    have hM_32 : M_26 (μ 5) = cI ca 220 sa := (fr_28 (μ 5) (hμ.ne (i := 5) (j := 1) (by decide) (by decide) (by decide))).trans hM_21
    have hM_33 : M_26 (μ 6) = cZ ca 2 iz := (fr_28 (μ 6) (hμ.ne (i := 6) (j := 1) (by decide) (by decide) (by decide))).trans hM_22
    have hM_34 : M_26 (μ 7) = cI ca 33 rd := (fr_28 (μ 7) (hμ.ne (i := 7) (j := 1) (by decide) (by decide) (by decide))).trans hM_23
    have hM_35 : M_26 (μ 8) = cC ca 60 pa := (fr_28 (μ 8) (hμ.ne (i := 8) (j := 1) (by decide) (by decide) (by decide))).trans hM_24
    have hM_36 : M_26 (μ 2) = cI ca 110 g := (fr_28 (μ 2) (hμ.ne (i := 2) (j := 1) (by decide) (by decide) (by decide))).trans hM_25
    refine g_st (st' := []) rfl ?_
    refine g_aload_n X 1 rfl dX6_set_33 rfl ?_
    refine g_iload_n X 0 rfl dX6_set_34 rfl ?_
    refine g_callV X (ct_X6_recorded l μ q (bgaG g_16) g be (g k)) (As := [.int (iI (g k))]) (rest := []) cl_X6 rfl ca_X6_recorded rfl wm_X6_85 wi_X6_recorded ws_X6_recorded wc_X6_recorded w0_X6 ⟨by decide, by decide⟩ (hμ.mem 0 (by decide)) hM_29 (by decide) ⟨by decide, by decide⟩ rfl dX6_set_35 rfl ⟨rfl, hμ, hM_29, hM_27, hM_36, hM_31, hq1.1, hq1.2⟩ (fun r1 L1 M_37 hq => ?_)
    obtain ⟨rfl, rfl, hM_38, hM_39, fr_40⟩ := hq
    have hM_41 : M_37 (μ 3) = cI ca 110 tr := (fr_40 _ (hμ.ne (i := 3) (j := 0) (by decide) (by decide) (by decide)) (hμ.ne (i := 3) (j := 4) (by decide) (by decide) (by decide))).trans hM_30
    have hM_42 : M_37 (μ 5) = cI ca 220 sa := (fr_40 _ (hμ.ne (i := 5) (j := 0) (by decide) (by decide) (by decide)) (hμ.ne (i := 5) (j := 4) (by decide) (by decide) (by decide))).trans hM_32
    have hM_43 : M_37 (μ 6) = cZ ca 2 iz := (fr_40 _ (hμ.ne (i := 6) (j := 0) (by decide) (by decide) (by decide)) (hμ.ne (i := 6) (j := 4) (by decide) (by decide) (by decide))).trans hM_33
    have hM_44 : M_37 (μ 7) = cI ca 33 rd := (fr_40 _ (hμ.ne (i := 7) (j := 0) (by decide) (by decide) (by decide)) (hμ.ne (i := 7) (j := 4) (by decide) (by decide) (by decide))).trans hM_34
    have hM_45 : M_37 (μ 8) = cC ca 60 pa := (fr_40 _ (hμ.ne (i := 8) (j := 0) (by decide) (by decide) (by decide)) (hμ.ne (i := 8) (j := 4) (by decide) (by decide) (by decide))).trans hM_35
    have hM_46 : M_37 (μ 2) = cI ca 110 g := (fr_40 _ (hμ.ne (i := 2) (j := 0) (by decide) (by decide) (by decide)) (hμ.ne (i := 2) (j := 4) (by decide) (by decide) (by decide))).trans hM_36
    have hM_47 : M_37 (μ 1) = cI ca 110 (bgaG g_16) := (fr_40 _ (hμ.ne (i := 1) (j := 0) (by decide) (by decide) (by decide)) (hμ.ne (i := 1) (j := 4) (by decide) (by decide) (by decide))).trans hM_27
    refine g_st (st' := [.int (iI (g k))]) rfl ?_
    subst hg_17
    exact g_iret X hret ⟨Nat.le_of_ble_eq_true rfl, Nat.le_of_ble_eq_true rfl⟩ dX6_set_38 ⟨by rw [anSet, if_pos h_1], rfl, by rw [opSet, if_pos h_1]; exact ⟨(up q 1 (recN (q 1))), _, _, _, rfl, rfl, hM_38, hM_47, hM_46, hM_41, hM_39, hM_42, hM_43, hM_44, hM_45⟩, (fun b hb => ((fr_40 b (hb 0 (by decide)) (hb 4 (by decide))).trans ((fr_28 b (hb 1 (by decide))).trans ((fr_15 b (hb 1 (by decide))).trans (fr_4 b (hb 2 (by decide)))))))⟩
  · refine g_bipush X (z := -2) (by decide +kernel) dX6_set_8 rfl ?_
    exact g_iret X hret ⟨Nat.le_of_ble_eq_true rfl, Nat.le_of_ble_eq_true rfl⟩ dX6_set_10 ⟨by rw [anSet, if_neg h_1], rfl, by rw [opSet, if_neg h_1]; exact ⟨q, _, _, _, rfl, rfl, hMo, hMs, hM2, hM3, hM4, hM5, hM6, hM7, hM8⟩, (fun b hb => rfl)⟩
set_option maxRecDepth 100000 in
set_option maxHeartbeats 4000000 in
theorem ct_X6_add (l : Launch) (μ : Nat → Nat) (q g : Int → Int) (sp tr be sa iz rd pa : Int → Int) (a b c0 : Int) : Ct l yX6_add cX6_add 4 (some .int) 3 0 0 (fun ca av L M => av = [.ref (μ 0), .int (iI a), .int (iI b), .int (iI c0)] ∧ MuOk μ L ∧ M (μ 0) = oMd μ q ∧ M (μ 1) = cI ca 110 g ∧ M (μ 2) = cI ca 110 sp ∧ M (μ 3) = cI ca 110 tr ∧ M (μ 4) = cI ca 660 be ∧ M (μ 5) = cI ca 220 sa ∧ M (μ 6) = cZ ca 2 iz ∧ M (μ 7) = cI ca 33 rd ∧ M (μ 8) = cC ca 60 pa ∧ Inv g ∧ (0 ≤ q 0 ∧ q 0 ≤ 60) ∧ (0 ≤ q 1 ∧ q 1 ≤ 6) ∧ R32 a ∧ R32 b ∧ R32 c0) (fun ca av L M r L1 M1 => r = some (.int (iI (anAdd (g, be, sa, iz, pa, q 0, q 1) a b c0))) ∧ L = L1 ∧ Md ca M1 μ (opAdd (g, be, sa, iz, pa, q 0, q 1) a b c0) ∧ ∀ b, (∀ i, i < 9 → b ≠ μ i) → M1 b = M b) := by
  refine Ct_of (own := RX6) (by decide) rfl (by rintro _ _ _ _ ⟨rfl, _⟩; exact Nat.le_of_ble_eq_true rfl) ?_
  rintro p e s m args below meth c D ca A av L M ⟨rfl, hμ, hMo, hMs, hM2, hM3, hM4, hM5, hM6, hM7, hM8, hI, hq0, hq1, ha, hb0, hc⟩ X hret hname
  refine g_lv (lv' := [(0, .ref (μ 0)), (1, .int (iI a)), (2, .int (iI b)), (3, .int (iI c0))]) [0, 1, 2, 3] rfl ?_
  obtain ⟨⟨i00, i01⟩, ⟨i10, i11⟩, ⟨i20, i21⟩, ⟨i30, i31⟩, ⟨i40, i41⟩, i50, i51⟩ := id hI.1
  refine g_iload_n X 1 rfl dX6_add_0 rfl ?_
  refine g_iconst X (z := 0) dX6_add_1 rfl ?_
  refine g_sipush X (z := 4095) (by decide +kernel) dX6_add_2 rfl ?_
  refine g_callS X (ct_X6_in l a 0 4095) (As := [.int (iI a), .int (iI 0), .int (iI 4095)]) (rest := []) rfl ca_X6_in rfl wm_X6_36 wt_X6_in wc_X6_in w0_X6 ⟨by decide, by decide⟩ (by decide) ⟨by decide, by decide⟩ rfl dX6_add_5 rfl ⟨rfl, ha, ⟨by decide, by decide⟩, ⟨by decide, by decide⟩⟩ (fun r1 L1 M1 hq => ?_)
  obtain ⟨rfl, rfl, rfl⟩ := hq
  refine g_st (st' := [.int (iI (if 0 ≤ a ∧ a ≤ 4095 then 1 else 0))]) rfl ?_
  refine g_if_eqb X (tgt := 33) dX6_add_8 (by decide) rfl (fun h_1 => ?_) (fun h_1 => ?_)
  · refine g_bipush X (z := -2) (by decide +kernel) dX6_add_33 rfl ?_
    exact g_iret X hret ⟨Nat.le_of_ble_eq_true rfl, Nat.le_of_ble_eq_true rfl⟩ dX6_add_35 ⟨by rw [anAdd, if_neg (by first | omega | (dsimp only; omega))], rfl, by rw [opAdd, if_neg (by first | omega | (dsimp only; omega))]; exact ⟨q, _, _, _, rfl, rfl, hMo, hMs, hM2, hM3, hM4, hM5, hM6, hM7, hM8⟩, (fun b hb => rfl)⟩
  · refine g_iload_n X 2 rfl dX6_add_11 rfl ?_
    refine g_iconst X (z := 0) dX6_add_12 rfl ?_
    refine g_sipush X (z := 1023) (by decide +kernel) dX6_add_13 rfl ?_
    refine g_callS X (ct_X6_in l b 0 1023) (As := [.int (iI b), .int (iI 0), .int (iI 1023)]) (rest := []) rfl ca_X6_in rfl wm_X6_36 wt_X6_in wc_X6_in w0_X6 ⟨by decide, by decide⟩ (by decide) ⟨by decide, by decide⟩ rfl dX6_add_16 rfl ⟨rfl, hb0, ⟨by decide, by decide⟩, ⟨by decide, by decide⟩⟩ (fun r1 L1 M1 hq => ?_)
    obtain ⟨rfl, rfl, rfl⟩ := hq
    refine g_st (st' := [.int (iI (if 0 ≤ b ∧ b ≤ 1023 then 1 else 0))]) rfl ?_
    refine g_if_eqb X (tgt := 33) dX6_add_19 (by decide) rfl (fun h_2 => ?_) (fun h_2 => ?_)
    · refine g_bipush X (z := -2) (by decide +kernel) dX6_add_33 rfl ?_
      exact g_iret X hret ⟨Nat.le_of_ble_eq_true rfl, Nat.le_of_ble_eq_true rfl⟩ dX6_add_35 ⟨by rw [anAdd, if_neg (by first | omega | (dsimp only; omega))], rfl, by rw [opAdd, if_neg (by first | omega | (dsimp only; omega))]; exact ⟨q, _, _, _, rfl, rfl, hMo, hMs, hM2, hM3, hM4, hM5, hM6, hM7, hM8⟩, (fun b hb => rfl)⟩
    · refine g_iload_n X 3 rfl dX6_add_22 rfl ?_
      refine g_iconst X (z := 1) dX6_add_23 rfl ?_
      refine g_sipush X (z := 200) (by decide +kernel) dX6_add_24 rfl ?_
      refine g_callS X (ct_X6_in l c0 1 200) (As := [.int (iI c0), .int (iI 1), .int (iI 200)]) (rest := []) rfl ca_X6_in rfl wm_X6_36 wt_X6_in wc_X6_in w0_X6 ⟨by decide, by decide⟩ (by decide) ⟨by decide, by decide⟩ rfl dX6_add_27 rfl ⟨rfl, hc, ⟨by decide, by decide⟩, ⟨by decide, by decide⟩⟩ (fun r1 L1 M1 hq => ?_)
      obtain ⟨rfl, rfl, rfl⟩ := hq
      refine g_st (st' := [.int (iI (if 1 ≤ c0 ∧ c0 ≤ 200 then 1 else 0))]) rfl ?_
      refine g_if_neb X (tgt := 36) dX6_add_30 (by decide) rfl (fun h_3 => ?_) (fun h_3 => ?_)
      · refine g_aload_n X 0 rfl dX6_add_36 rfl ?_
        refine g_get X cl_X6 0 (by decide) wf_X6_7 rfl (hμ.mem 0 (by decide)) hMo rfl dX6_add_37 rfl ?_
        refine g_iconst X (z := 5) dX6_add_40 rfl ?_
        refine g_iald X (hμ.mem 1 (by decide)) hMs ⟨by decide, by decide⟩ (by decide) dX6_add_41 rfl ?_
        refine g_iconst X (z := 4) dX6_add_42 rfl ?_
        refine g_icmp_ne X ⟨by omega, by omega⟩ ⟨by decide, by decide⟩ (tgt := 49) dX6_add_43 (by decide) rfl (fun h_4 => ?_) (fun h_4 => ?_)
        · refine g_aload_n X 0 rfl dX6_add_49 rfl ?_
          refine g_callV X (ct_X6_hold l μ q g sp) (As := []) (rest := []) cl_X6 rfl ca_X6_hold rfl wm_X6_79 wi_X6_hold ws_X6_hold wc_X6_hold w0_X6 ⟨by decide, by decide⟩ (hμ.mem 0 (by decide)) hMo (by decide) ⟨by decide, by decide⟩ rfl dX6_add_50 rfl ⟨rfl, hμ, hMo, hMs, hM2⟩ (fun r1 L1 M_5 hq => ?_)
          obtain ⟨rfl, rfl, hM_6, fr_7⟩ := hq
          have hM_8 : M_5 (μ 0) = .inr (6, [.ref (μ 1), .ref (μ 2), .ref (μ 3), .ref (μ 4), .ref (μ 5), .ref (μ 6), .ref (μ 7), .ref (μ 8), .int (iI (q 0)), .int (iI (q 1)), .int (iI (q 2)), .int (iI (q 3))]) := (fr_7 (μ 0) (hμ.ne (i := 0) (j := 2) (by decide) (by decide) (by decide))).trans hMo
          have hM_9 : M_5 (μ 1) = cI ca 110 g := (fr_7 (μ 1) (hμ.ne (i := 1) (j := 2) (by decide) (by decide) (by decide))).trans hMs
          have hM_10 : M_5 (μ 3) = cI ca 110 tr := (fr_7 (μ 3) (hμ.ne (i := 3) (j := 2) (by decide) (by decide) (by decide))).trans hM3
          have hM_11 : M_5 (μ 4) = cI ca 660 be := (fr_7 (μ 4) (hμ.ne (i := 4) (j := 2) (by decide) (by decide) (by decide))).trans hM4
          have hM_12 : M_5 (μ 5) = cI ca 220 sa := (fr_7 (μ 5) (hμ.ne (i := 5) (j := 2) (by decide) (by decide) (by decide))).trans hM5
          have hM_13 : M_5 (μ 6) = cZ ca 2 iz := (fr_7 (μ 6) (hμ.ne (i := 6) (j := 2) (by decide) (by decide) (by decide))).trans hM6
          have hM_14 : M_5 (μ 7) = cI ca 33 rd := (fr_7 (μ 7) (hμ.ne (i := 7) (j := 2) (by decide) (by decide) (by decide))).trans hM7
          have hM_15 : M_5 (μ 8) = cC ca 60 pa := (fr_7 (μ 8) (hμ.ne (i := 8) (j := 2) (by decide) (by decide) (by decide))).trans hM8
          refine g_st (st' := []) rfl ?_
          refine g_aload_n X 0 rfl dX6_add_53 rfl ?_
          refine g_aload_n X 0 rfl dX6_add_54 rfl ?_
          refine g_iload_n X 1 rfl dX6_add_55 rfl ?_
          refine g_iload_n X 2 rfl dX6_add_56 rfl ?_
          refine g_iload_n X 3 rfl dX6_add_57 rfl ?_
          refine g_callV X (ct_X6_puts l μ q g a b c0) (As := [.int (iI a), .int (iI b), .int (iI c0)]) (rest := [.ref (μ 0)]) cl_X6 rfl ca_X6_puts rfl wm_X6_88 wi_X6_puts ws_X6_puts wc_X6_puts w0_X6 ⟨by decide, by decide⟩ (hμ.mem 0 (by decide)) hM_8 (Nat.le_of_ble_eq_true rfl) ⟨by decide, by decide⟩ rfl dX6_add_58 rfl ⟨rfl, hμ, hM_8, hM_9, by omega, by omega⟩ (fun r1 L1 M_16 hq => ?_)
          obtain ⟨rfl, rfl, hM_17, fr_18⟩ := hq
          have hM_19 : M_16 (μ 0) = .inr (6, [.ref (μ 1), .ref (μ 2), .ref (μ 3), .ref (μ 4), .ref (μ 5), .ref (μ 6), .ref (μ 7), .ref (μ 8), .int (iI (q 0)), .int (iI (q 1)), .int (iI (q 2)), .int (iI (q 3))]) := (fr_18 (μ 0) (hμ.ne (i := 0) (j := 1) (by decide) (by decide) (by decide))).trans hM_8
          have hM_20 : M_16 (μ 3) = cI ca 110 tr := (fr_18 (μ 3) (hμ.ne (i := 3) (j := 1) (by decide) (by decide) (by decide))).trans hM_10
          have hM_21 : M_16 (μ 4) = cI ca 660 be := (fr_18 (μ 4) (hμ.ne (i := 4) (j := 1) (by decide) (by decide) (by decide))).trans hM_11
          have hM_22 : M_16 (μ 5) = cI ca 220 sa := (fr_18 (μ 5) (hμ.ne (i := 5) (j := 1) (by decide) (by decide) (by decide))).trans hM_12
          have hM_23 : M_16 (μ 6) = cZ ca 2 iz := (fr_18 (μ 6) (hμ.ne (i := 6) (j := 1) (by decide) (by decide) (by decide))).trans hM_13
          have hM_24 : M_16 (μ 7) = cI ca 33 rd := (fr_18 (μ 7) (hμ.ne (i := 7) (j := 1) (by decide) (by decide) (by decide))).trans hM_14
          have hM_25 : M_16 (μ 8) = cC ca 60 pa := (fr_18 (μ 8) (hμ.ne (i := 8) (j := 1) (by decide) (by decide) (by decide))).trans hM_15
          have hM_26 : M_16 (μ 2) = cI ca 110 g := (fr_18 (μ 2) (hμ.ne (i := 2) (j := 1) (by decide) (by decide) (by decide))).trans hM_6
          refine g_st (st' := [.int (iI (g 5)), .ref (μ 0)]) rfl ?_
          refine g_callV X (ct_X6_recorded l μ q (putsG g a b c0) g be (g 5)) (As := [.int (iI (g 5))]) (rest := []) cl_X6 rfl ca_X6_recorded rfl wm_X6_85 wi_X6_recorded ws_X6_recorded wc_X6_recorded w0_X6 ⟨by decide, by decide⟩ (hμ.mem 0 (by decide)) hM_19 (by decide) ⟨by decide, by decide⟩ rfl dX6_add_61 rfl ⟨rfl, hμ, hM_19, hM_17, hM_26, hM_21, hq1.1, hq1.2⟩ (fun r1 L1 M_27 hq => ?_)
          obtain ⟨rfl, rfl, hM_28, hM_29, fr_30⟩ := hq
          have hM_31 : M_27 (μ 3) = cI ca 110 tr := (fr_30 _ (hμ.ne (i := 3) (j := 0) (by decide) (by decide) (by decide)) (hμ.ne (i := 3) (j := 4) (by decide) (by decide) (by decide))).trans hM_20
          have hM_32 : M_27 (μ 5) = cI ca 220 sa := (fr_30 _ (hμ.ne (i := 5) (j := 0) (by decide) (by decide) (by decide)) (hμ.ne (i := 5) (j := 4) (by decide) (by decide) (by decide))).trans hM_22
          have hM_33 : M_27 (μ 6) = cZ ca 2 iz := (fr_30 _ (hμ.ne (i := 6) (j := 0) (by decide) (by decide) (by decide)) (hμ.ne (i := 6) (j := 4) (by decide) (by decide) (by decide))).trans hM_23
          have hM_34 : M_27 (μ 7) = cI ca 33 rd := (fr_30 _ (hμ.ne (i := 7) (j := 0) (by decide) (by decide) (by decide)) (hμ.ne (i := 7) (j := 4) (by decide) (by decide) (by decide))).trans hM_24
          have hM_35 : M_27 (μ 8) = cC ca 60 pa := (fr_30 _ (hμ.ne (i := 8) (j := 0) (by decide) (by decide) (by decide)) (hμ.ne (i := 8) (j := 4) (by decide) (by decide) (by decide))).trans hM_25
          have hM_36 : M_27 (μ 2) = cI ca 110 g := (fr_30 _ (hμ.ne (i := 2) (j := 0) (by decide) (by decide) (by decide)) (hμ.ne (i := 2) (j := 4) (by decide) (by decide) (by decide))).trans hM_26
          have hM_37 : M_27 (μ 1) = cI ca 110 (putsG g a b c0) := (fr_30 _ (hμ.ne (i := 1) (j := 0) (by decide) (by decide) (by decide)) (hμ.ne (i := 1) (j := 4) (by decide) (by decide) (by decide))).trans hM_17
          refine g_st (st' := [.int (iI (g 5))]) rfl ?_
          exact g_iret X hret ⟨Nat.le_of_ble_eq_true rfl, Nat.le_of_ble_eq_true rfl⟩ dX6_add_64 ⟨by rw [anAdd, if_pos (by first | omega | (dsimp only; omega)), if_neg (by first | omega | (dsimp only; omega))], rfl, by rw [opAdd, if_pos (by first | omega | (dsimp only; omega))]; exact ⟨(up q 1 (recN (q 1))), _, _, _, rfl, rfl, hM_28, hM_37, hM_36, hM_31, hM_29, hM_32, hM_33, hM_34, hM_35⟩, (fun b hb => ((fr_30 b (hb 0 (by decide)) (hb 4 (by decide))).trans ((fr_18 b (hb 1 (by decide))).trans (fr_7 b (hb 2 (by decide))))))⟩
        · refine g_bipush X (z := -4) (by decide +kernel) dX6_add_46 rfl ?_
          exact g_iret X hret ⟨Nat.le_of_ble_eq_true rfl, Nat.le_of_ble_eq_true rfl⟩ dX6_add_48 ⟨by rw [anAdd, if_pos (by first | omega | (dsimp only; omega)), if_pos (by first | omega | (dsimp only; omega))], rfl, by rw [opAdd, if_neg (by first | omega | (dsimp only; omega))]; exact ⟨q, _, _, _, rfl, rfl, hMo, hMs, hM2, hM3, hM4, hM5, hM6, hM7, hM8⟩, (fun b hb => rfl)⟩
      · refine g_bipush X (z := -2) (by decide +kernel) dX6_add_33 rfl ?_
        exact g_iret X hret ⟨Nat.le_of_ble_eq_true rfl, Nat.le_of_ble_eq_true rfl⟩ dX6_add_35 ⟨by rw [anAdd, if_neg (by first | omega | (dsimp only; omega))], rfl, by rw [opAdd, if_neg (by first | omega | (dsimp only; omega))]; exact ⟨q, _, _, _, rfl, rfl, hMo, hMs, hM2, hM3, hM4, hM5, hM6, hM7, hM8⟩, (fun b hb => rfl)⟩
set_option maxRecDepth 100000 in
set_option maxHeartbeats 4000000 in
theorem ct_X6_reset (l : Launch) (μ : Nat → Nat) (q g : Int → Int) (sp tr be sa iz rd pa : Int → Int) : Ct l yX6_reset cX6_reset 1 (some .int) 3 0 0 (fun ca av L M => av = [.ref (μ 0)] ∧ MuOk μ L ∧ M (μ 0) = oMd μ q ∧ M (μ 1) = cI ca 110 g ∧ M (μ 2) = cI ca 110 sp ∧ M (μ 3) = cI ca 110 tr ∧ M (μ 4) = cI ca 660 be ∧ M (μ 5) = cI ca 220 sa ∧ M (μ 6) = cZ ca 2 iz ∧ M (μ 7) = cI ca 33 rd ∧ M (μ 8) = cC ca 60 pa ∧ Inv g ∧ (0 ≤ q 0 ∧ q 0 ≤ 60) ∧ (0 ≤ q 1 ∧ q 1 ≤ 6)) (fun ca av L M r L1 M1 => r = some (.int (iI (anReset (g, be, sa, iz, pa, q 0, q 1)))) ∧ L = L1 ∧ Md ca M1 μ (opReset (g, be, sa, iz, pa, q 0, q 1)) ∧ ∀ b, (∀ i, i < 9 → b ≠ μ i) → M1 b = M b) := by
  refine Ct_of (own := RX6) (by decide) rfl (by rintro _ _ _ _ ⟨rfl, _⟩; exact Nat.le_of_ble_eq_true rfl) ?_
  rintro p e s m args below meth c D ca A av L M ⟨rfl, hμ, hMo, hMs, hM2, hM3, hM4, hM5, hM6, hM7, hM8, hI, hq0, hq1⟩ X hret hname
  refine g_lv (lv' := [(0, .ref (μ 0))]) [0] rfl ?_
  obtain ⟨⟨i00, i01⟩, ⟨i10, i11⟩, ⟨i20, i21⟩, ⟨i30, i31⟩, ⟨i40, i41⟩, i50, i51⟩ := id hI.1
  refine g_aload_n X 0 rfl dX6_reset_0 rfl ?_
  refine g_callV X (ct_X6_hold l μ q g sp) (As := []) (rest := []) cl_X6 rfl ca_X6_hold rfl wm_X6_79 wi_X6_hold ws_X6_hold wc_X6_hold w0_X6 ⟨by decide, by decide⟩ (hμ.mem 0 (by decide)) hMo (by decide) ⟨by decide, by decide⟩ rfl dX6_reset_1 rfl ⟨rfl, hμ, hMo, hMs, hM2⟩ (fun r1 L1 M_1 hq => ?_)
  obtain ⟨rfl, rfl, hM_2, fr_3⟩ := hq
  have hM_4 : M_1 (μ 0) = .inr (6, [.ref (μ 1), .ref (μ 2), .ref (μ 3), .ref (μ 4), .ref (μ 5), .ref (μ 6), .ref (μ 7), .ref (μ 8), .int (iI (q 0)), .int (iI (q 1)), .int (iI (q 2)), .int (iI (q 3))]) := (fr_3 (μ 0) (hμ.ne (i := 0) (j := 2) (by decide) (by decide) (by decide))).trans hMo
  have hM_5 : M_1 (μ 1) = cI ca 110 g := (fr_3 (μ 1) (hμ.ne (i := 1) (j := 2) (by decide) (by decide) (by decide))).trans hMs
  have hM_6 : M_1 (μ 3) = cI ca 110 tr := (fr_3 (μ 3) (hμ.ne (i := 3) (j := 2) (by decide) (by decide) (by decide))).trans hM3
  have hM_7 : M_1 (μ 4) = cI ca 660 be := (fr_3 (μ 4) (hμ.ne (i := 4) (j := 2) (by decide) (by decide) (by decide))).trans hM4
  have hM_8 : M_1 (μ 5) = cI ca 220 sa := (fr_3 (μ 5) (hμ.ne (i := 5) (j := 2) (by decide) (by decide) (by decide))).trans hM5
  have hM_9 : M_1 (μ 6) = cZ ca 2 iz := (fr_3 (μ 6) (hμ.ne (i := 6) (j := 2) (by decide) (by decide) (by decide))).trans hM6
  have hM_10 : M_1 (μ 7) = cI ca 33 rd := (fr_3 (μ 7) (hμ.ne (i := 7) (j := 2) (by decide) (by decide) (by decide))).trans hM7
  have hM_11 : M_1 (μ 8) = cC ca 60 pa := (fr_3 (μ 8) (hμ.ne (i := 8) (j := 2) (by decide) (by decide) (by decide))).trans hM8
  refine g_st (st' := []) rfl ?_
  refine g_aload_n X 0 rfl dX6_reset_4 rfl ?_
  refine g_callV X (ct_X6_beginsAnew l μ q g) (As := []) (rest := []) cl_X6 rfl ca_X6_beginsAnew rfl wm_X6_82 wi_X6_beginsAnew ws_X6_beginsAnew wc_X6_beginsAnew w0_X6 ⟨by decide, by decide⟩ (hμ.mem 0 (by decide)) hM_4 (by decide) ⟨by decide, by decide⟩ rfl dX6_reset_5 rfl ⟨rfl, hμ, hM_4, hM_5, by omega, by omega⟩ (fun r1 L1 M_12 hq => ?_)
  obtain ⟨rfl, rfl, hM_13, fr_14⟩ := hq
  have hM_15 : M_12 (μ 0) = .inr (6, [.ref (μ 1), .ref (μ 2), .ref (μ 3), .ref (μ 4), .ref (μ 5), .ref (μ 6), .ref (μ 7), .ref (μ 8), .int (iI (q 0)), .int (iI (q 1)), .int (iI (q 2)), .int (iI (q 3))]) := (fr_14 (μ 0) (hμ.ne (i := 0) (j := 1) (by decide) (by decide) (by decide))).trans hM_4
  have hM_16 : M_12 (μ 3) = cI ca 110 tr := (fr_14 (μ 3) (hμ.ne (i := 3) (j := 1) (by decide) (by decide) (by decide))).trans hM_6
  have hM_17 : M_12 (μ 4) = cI ca 660 be := (fr_14 (μ 4) (hμ.ne (i := 4) (j := 1) (by decide) (by decide) (by decide))).trans hM_7
  have hM_18 : M_12 (μ 5) = cI ca 220 sa := (fr_14 (μ 5) (hμ.ne (i := 5) (j := 1) (by decide) (by decide) (by decide))).trans hM_8
  have hM_19 : M_12 (μ 6) = cZ ca 2 iz := (fr_14 (μ 6) (hμ.ne (i := 6) (j := 1) (by decide) (by decide) (by decide))).trans hM_9
  have hM_20 : M_12 (μ 7) = cI ca 33 rd := (fr_14 (μ 7) (hμ.ne (i := 7) (j := 1) (by decide) (by decide) (by decide))).trans hM_10
  have hM_21 : M_12 (μ 8) = cC ca 60 pa := (fr_14 (μ 8) (hμ.ne (i := 8) (j := 1) (by decide) (by decide) (by decide))).trans hM_11
  have hM_22 : M_12 (μ 2) = cI ca 110 g := (fr_14 (μ 2) (hμ.ne (i := 2) (j := 1) (by decide) (by decide) (by decide))).trans hM_2
  refine g_st (st' := []) rfl ?_
  refine g_aload_n X 0 rfl dX6_reset_8 rfl ?_
  refine g_aload_n X 0 rfl dX6_reset_9 rfl ?_
  refine g_callV X (ct_X6_wordsLeft l μ q (bgaG g)) (As := []) (rest := [.ref (μ 0)]) cl_X6 rfl ca_X6_wordsLeft rfl wm_X6_69 wi_X6_wordsLeft ws_X6_wordsLeft wc_X6_wordsLeft w0_X6 ⟨by decide, by decide⟩ (hμ.mem 0 (by decide)) hM_15 (Nat.le_of_ble_eq_true rfl) ⟨by decide, by decide⟩ rfl dX6_reset_10 rfl ⟨rfl, hμ, hM_15, hM_13, by rw [bga_low (by decide) (by decide)]; omega, by rw [bga_low (by decide) (by decide)]; omega⟩ (fun r1 L1 M1 hq => ?_)
  obtain ⟨rfl, rfl, rfl⟩ := hq
  refine g_st (st' := [.int (iI (wlG (bgaG g))), .ref (μ 0)]) rfl ?_
  refine g_callV X (ct_X6_recorded l μ q (bgaG g) g be (wlG (bgaG g))) (As := [.int (iI (wlG (bgaG g)))]) (rest := []) cl_X6 rfl ca_X6_recorded rfl wm_X6_85 wi_X6_recorded ws_X6_recorded wc_X6_recorded w0_X6 ⟨by decide, by decide⟩ (hμ.mem 0 (by decide)) hM_15 (by decide) ⟨by decide, by decide⟩ rfl dX6_reset_13 rfl ⟨rfl, hμ, hM_15, hM_13, hM_22, hM_17, hq1.1, hq1.2⟩ (fun r1 L1 M_23 hq => ?_)
  obtain ⟨rfl, rfl, hM_24, hM_25, fr_26⟩ := hq
  have hM_27 : M_23 (μ 3) = cI ca 110 tr := (fr_26 _ (hμ.ne (i := 3) (j := 0) (by decide) (by decide) (by decide)) (hμ.ne (i := 3) (j := 4) (by decide) (by decide) (by decide))).trans hM_16
  have hM_28 : M_23 (μ 5) = cI ca 220 sa := (fr_26 _ (hμ.ne (i := 5) (j := 0) (by decide) (by decide) (by decide)) (hμ.ne (i := 5) (j := 4) (by decide) (by decide) (by decide))).trans hM_18
  have hM_29 : M_23 (μ 6) = cZ ca 2 iz := (fr_26 _ (hμ.ne (i := 6) (j := 0) (by decide) (by decide) (by decide)) (hμ.ne (i := 6) (j := 4) (by decide) (by decide) (by decide))).trans hM_19
  have hM_30 : M_23 (μ 7) = cI ca 33 rd := (fr_26 _ (hμ.ne (i := 7) (j := 0) (by decide) (by decide) (by decide)) (hμ.ne (i := 7) (j := 4) (by decide) (by decide) (by decide))).trans hM_20
  have hM_31 : M_23 (μ 8) = cC ca 60 pa := (fr_26 _ (hμ.ne (i := 8) (j := 0) (by decide) (by decide) (by decide)) (hμ.ne (i := 8) (j := 4) (by decide) (by decide) (by decide))).trans hM_21
  have hM_32 : M_23 (μ 2) = cI ca 110 g := (fr_26 _ (hμ.ne (i := 2) (j := 0) (by decide) (by decide) (by decide)) (hμ.ne (i := 2) (j := 4) (by decide) (by decide) (by decide))).trans hM_22
  have hM_33 : M_23 (μ 1) = cI ca 110 (bgaG g) := (fr_26 _ (hμ.ne (i := 1) (j := 0) (by decide) (by decide) (by decide)) (hμ.ne (i := 1) (j := 4) (by decide) (by decide) (by decide))).trans hM_13
  refine g_st (st' := [.int (iI (wlG (bgaG g)))]) rfl ?_
  exact g_iret X hret ⟨Nat.le_of_ble_eq_true rfl, Nat.le_of_ble_eq_true rfl⟩ dX6_reset_16 ⟨by rw [anReset], rfl, by rw [opReset]; exact ⟨(up q 1 (recN (q 1))), _, _, _, rfl, rfl, hM_24, hM_33, hM_32, hM_27, hM_25, hM_28, hM_29, hM_30, hM_31⟩, (fun b hb => ((fr_26 b (hb 0 (by decide)) (hb 4 (by decide))).trans ((fr_14 b (hb 1 (by decide))).trans (fr_3 b (hb 2 (by decide))))))⟩
set_option maxRecDepth 100000 in
set_option maxHeartbeats 4000000 in
theorem ct_X6_stride (l : Launch) (μ : Nat → Nat) (q g : Int → Int) (sp tr be sa iz rd pa : Int → Int) (i v : Int) : Ct l yX6_stride cX6_stride 5 (some .int) 2 0 0 (fun ca av L M => av = [.ref (μ 0), .int (iI i), .int (iI v)] ∧ MuOk μ L ∧ M (μ 0) = oMd μ q ∧ M (μ 1) = cI ca 110 g ∧ M (μ 2) = cI ca 110 sp ∧ M (μ 3) = cI ca 110 tr ∧ M (μ 4) = cI ca 660 be ∧ M (μ 5) = cI ca 220 sa ∧ M (μ 6) = cZ ca 2 iz ∧ M (μ 7) = cI ca 33 rd ∧ M (μ 8) = cC ca 60 pa ∧ Inv g ∧ (0 ≤ q 0 ∧ q 0 ≤ 60) ∧ (0 ≤ q 1 ∧ q 1 ≤ 6) ∧ R32 i ∧ R32 v) (fun ca av L M r L1 M1 => r = some (.int (iI (anStride (g, be, sa, iz, pa, q 0, q 1) i v))) ∧ L = L1 ∧ Md ca M1 μ (opStride (g, be, sa, iz, pa, q 0, q 1) i v) ∧ ∀ b, (∀ i, i < 9 → b ≠ μ i) → M1 b = M b) := by
  refine Ct_of (own := RX6) (by decide) rfl (by rintro _ _ _ _ ⟨rfl, _⟩; exact Nat.le_of_ble_eq_true rfl) ?_
  rintro p e s m args below meth c D ca A av L M ⟨rfl, hμ, hMo, hMs, hM2, hM3, hM4, hM5, hM6, hM7, hM8, hI, hq0, hq1, hi, hv⟩ X hret hname
  refine g_lv (lv' := [(0, .ref (μ 0)), (1, .int (iI i)), (2, .int (iI v))]) [0, 1, 2] rfl ?_
  obtain ⟨⟨i00, i01⟩, ⟨i10, i11⟩, ⟨i20, i21⟩, ⟨i30, i31⟩, ⟨i40, i41⟩, i50, i51⟩ := id hI.1
  refine g_aload_n X 0 rfl dX6_stride_0 rfl ?_
  refine g_iload_n X 1 rfl dX6_stride_1 rfl ?_
  refine g_callV X (ct_X6_isStream l μ q g i) (As := [.int (iI i)]) (rest := []) cl_X6 rfl ca_X6_isStream rfl wm_X6_92 wi_X6_isStream ws_X6_isStream wc_X6_isStream w0_X6 ⟨by decide, by decide⟩ (hμ.mem 0 (by decide)) hMo (by decide) ⟨by decide, by decide⟩ rfl dX6_stride_2 rfl ⟨rfl, hμ, hMo, hMs, hi, by omega, by omega⟩ (fun r1 L1 M1 hq => ?_)
  obtain ⟨rfl, rfl, rfl⟩ := hq
  refine g_st (st' := [.int (iI (if 0 ≤ i ∧ i ≤ g 5 - 1 then 1 else 0))]) rfl ?_
  refine g_if_neb X (tgt := 10) dX6_stride_5 (by decide) rfl (fun h_1 => ?_) (fun h_1 => ?_)
  · refine g_iload_n X 2 rfl dX6_stride_10 rfl ?_
    refine g_iconst X (z := 0) dX6_stride_11 rfl ?_
    refine g_sipush X (z := 1023) (by decide +kernel) dX6_stride_12 rfl ?_
    refine g_callS X (ct_X6_in l v 0 1023) (As := [.int (iI v), .int (iI 0), .int (iI 1023)]) (rest := []) rfl ca_X6_in rfl wm_X6_36 wt_X6_in wc_X6_in w0_X6 ⟨by decide, by decide⟩ (by decide) ⟨by decide, by decide⟩ rfl dX6_stride_15 rfl ⟨rfl, hv, ⟨by decide, by decide⟩, ⟨by decide, by decide⟩⟩ (fun r1 L1 M1 hq => ?_)
    obtain ⟨rfl, rfl, rfl⟩ := hq
    refine g_st (st' := [.int (iI (if 0 ≤ v ∧ v ≤ 1023 then 1 else 0))]) rfl ?_
    refine g_if_neb X (tgt := 24) dX6_stride_18 (by decide) rfl (fun h_2 => ?_) (fun h_2 => ?_)
    · refine g_aload_n X 0 rfl dX6_stride_24 rfl ?_
      obtain ⟨⟨r00, r01⟩, ⟨r10, r11⟩, ⟨r20, r21⟩, ⟨r30, r31⟩, ⟨r40, r41⟩, r5⟩ := hI.2.2 i (by omega) (by omega)
      refine g_callV X (ct_X6_hold l μ q g sp) (As := []) (rest := []) cl_X6 rfl ca_X6_hold rfl wm_X6_79 wi_X6_hold ws_X6_hold wc_X6_hold w0_X6 ⟨by decide, by decide⟩ (hμ.mem 0 (by decide)) hMo (by decide) ⟨by decide, by decide⟩ rfl dX6_stride_25 rfl ⟨rfl, hμ, hMo, hMs, hM2⟩ (fun r1 L1 M_3 hq => ?_)
      obtain ⟨rfl, rfl, hM_4, fr_5⟩ := hq
      have hM_6 : M_3 (μ 0) = .inr (6, [.ref (μ 1), .ref (μ 2), .ref (μ 3), .ref (μ 4), .ref (μ 5), .ref (μ 6), .ref (μ 7), .ref (μ 8), .int (iI (q 0)), .int (iI (q 1)), .int (iI (q 2)), .int (iI (q 3))]) := (fr_5 (μ 0) (hμ.ne (i := 0) (j := 2) (by decide) (by decide) (by decide))).trans hMo
      have hM_7 : M_3 (μ 1) = cI ca 110 g := (fr_5 (μ 1) (hμ.ne (i := 1) (j := 2) (by decide) (by decide) (by decide))).trans hMs
      have hM_8 : M_3 (μ 3) = cI ca 110 tr := (fr_5 (μ 3) (hμ.ne (i := 3) (j := 2) (by decide) (by decide) (by decide))).trans hM3
      have hM_9 : M_3 (μ 4) = cI ca 660 be := (fr_5 (μ 4) (hμ.ne (i := 4) (j := 2) (by decide) (by decide) (by decide))).trans hM4
      have hM_10 : M_3 (μ 5) = cI ca 220 sa := (fr_5 (μ 5) (hμ.ne (i := 5) (j := 2) (by decide) (by decide) (by decide))).trans hM5
      have hM_11 : M_3 (μ 6) = cZ ca 2 iz := (fr_5 (μ 6) (hμ.ne (i := 6) (j := 2) (by decide) (by decide) (by decide))).trans hM6
      have hM_12 : M_3 (μ 7) = cI ca 33 rd := (fr_5 (μ 7) (hμ.ne (i := 7) (j := 2) (by decide) (by decide) (by decide))).trans hM7
      have hM_13 : M_3 (μ 8) = cC ca 60 pa := (fr_5 (μ 8) (hμ.ne (i := 8) (j := 2) (by decide) (by decide) (by decide))).trans hM8
      refine g_st (st' := []) rfl ?_
      refine g_iload_n X 1 rfl dX6_stride_28 rfl ?_
      refine g_callS X (ct_X6_m l i) (As := [.int (iI i)]) (rest := []) rfl ca_X6_m rfl wm_X6_52 wt_X6_m wc_X6_m w0_X6 ⟨by decide, by decide⟩ (by decide) ⟨by decide, by decide⟩ rfl dX6_stride_29 rfl ⟨rfl, trivial⟩ (fun r1 L1 M1 hq => ?_)
      obtain ⟨rfl, rfl, rfl⟩ := hq
      refine g_st (st' := [.int (iI (70 + 10 * i))]) rfl ?_
      refine g_istore_n X (lv' := [(3, .int (iI (70 + 10 * i))), (0, .ref (μ 0)), (1, .int (iI i)), (2, .int (iI v))]) (by decide) rfl dX6_stride_32 rfl ?_
      refine g_aload_n X 1 rfl dX6_stride_33 rfl ?_
      refine g_get X cl_X6 0 (by decide) wf_X6_7 rfl (hμ.mem 0 (by decide)) hM_6 rfl dX6_stride_34 rfl ?_
      refine g_iload_n X 0 rfl dX6_stride_37 rfl ?_
      refine g_iconst X (z := 1) dX6_stride_38 rfl ?_
      refine g_iadd X dX6_stride_39 rfl ?_
      refine g_iald X (hμ.mem 1 (by decide)) hM_7 ⟨by omega, by omega⟩ (by decide) dX6_stride_40 rfl ?_
      refine g_istore X (lv' := [(4, .int (iI (g ((70 + 10 * i) + 1)))), (3, .int (iI (70 + 10 * i))), (0, .ref (μ 0)), (1, .int (iI i)), (2, .int (iI v))]) (by decide) rfl dX6_stride_41 rfl ?_
      refine g_aload_n X 2 rfl dX6_stride_43 rfl ?_
      refine g_get X cl_X6 0 (by decide) wf_X6_7 rfl (hμ.mem 0 (by decide)) hM_6 rfl dX6_stride_44 rfl ?_
      refine g_iload_n X 1 rfl dX6_stride_47 rfl ?_
      refine g_iconst X (z := 1) dX6_stride_48 rfl ?_
      refine g_iadd X dX6_stride_49 rfl ?_
      refine g_iload_n X 4 rfl dX6_stride_50 rfl ?_
      refine g_iast X (hμ.mem 1 (by decide)) hM_7 ⟨by omega, by omega⟩ (by decide) dX6_stride_51 rfl (fun M_14 hM_15 fr_16 => ?_)
      obtain ⟨g_17, hg_18⟩ : ∃ x : Int → Int, x = up g ((70 + 10 * i) + 1) v := ⟨_, rfl⟩
      rw [← hg_18] at hM_15
      have hM_19 : M_14 (μ 0) = .inr (6, [.ref (μ 1), .ref (μ 2), .ref (μ 3), .ref (μ 4), .ref (μ 5), .ref (μ 6), .ref (μ 7), .ref (μ 8), .int (iI (q 0)), .int (iI (q 1)), .int (iI (q 2)), .int (iI (q 3))]) := (fr_16 (μ 0) (hμ.ne (i := 0) (j := 1) (by decide) (by decide) (by decide))).trans hM_6
      have hM_20 : M_14 (μ 3) = cI ca 110 tr := (fr_16 (μ 3) (hμ.ne (i := 3) (j := 1) (by decide) (by decide) (by decide))).trans hM_8
      have hM_21 : M_14 (μ 4) = cI ca 660 be := (fr_16 (μ 4) (hμ.ne (i := 4) (j := 1) (by decide) (by decide) (by decide))).trans hM_9
      have hM_22 : M_14 (μ 5) = cI ca 220 sa := (fr_16 (μ 5) (hμ.ne (i := 5) (j := 1) (by decide) (by decide) (by decide))).trans hM_10
      have hM_23 : M_14 (μ 6) = cZ ca 2 iz := (fr_16 (μ 6) (hμ.ne (i := 6) (j := 1) (by decide) (by decide) (by decide))).trans hM_11
      have hM_24 : M_14 (μ 7) = cI ca 33 rd := (fr_16 (μ 7) (hμ.ne (i := 7) (j := 1) (by decide) (by decide) (by decide))).trans hM_12
      have hM_25 : M_14 (μ 8) = cC ca 60 pa := (fr_16 (μ 8) (hμ.ne (i := 8) (j := 1) (by decide) (by decide) (by decide))).trans hM_13
      have hM_26 : M_14 (μ 2) = cI ca 110 g := (fr_16 (μ 2) (hμ.ne (i := 2) (j := 1) (by decide) (by decide) (by decide))).trans hM_4
      refine g_aload_n X 2 rfl dX6_stride_52 rfl ?_
      refine g_get X cl_X6 0 (by decide) wf_X6_7 rfl (hμ.mem 0 (by decide)) hM_19 rfl dX6_stride_53 rfl ?_
      refine g_iload_n X 1 rfl dX6_stride_56 rfl ?_
      refine g_iconst X (z := 4) dX6_stride_57 rfl ?_
      refine g_iadd X dX6_stride_58 rfl ?_
      refine g_aload_n X 2 rfl dX6_stride_59 rfl ?_
      refine g_get X cl_X6 0 (by decide) wf_X6_7 rfl (hμ.mem 0 (by decide)) hM_19 rfl dX6_stride_60 rfl ?_
      refine g_iload_n X 1 rfl dX6_stride_63 rfl ?_
      refine g_iconst X (z := 5) dX6_stride_64 rfl ?_
      refine g_iadd X dX6_stride_65 rfl ?_
      refine g_iald X (hμ.mem 1 (by decide)) hM_15 ⟨by omega, by omega⟩ (by decide) dX6_stride_66 rfl ?_
      have hr_27 : g_17 ((70 + 10 * i) + 5) = g ((70 + 10 * i) + 5) := by rw [hg_18, up_ne _ _ (by omega)]
      refine g_st (st' := [.int (iI (g ((70 + 10 * i) + 5))), .int (iI ((70 + 10 * i) + 4)), .ref (μ 1)]) (by rw [hr_27]) ?_
      refine g_if_ge X ⟨by omega, by omega⟩ (tgt := 81) dX6_stride_67 (by decide) rfl (fun h_28 => ?_) (fun h_28 => ?_)
      · refine g_aload_n X 2 rfl dX6_stride_81 rfl ?_
        refine g_get X cl_X6 0 (by decide) wf_X6_7 rfl (hμ.mem 0 (by decide)) hM_19 rfl dX6_stride_82 rfl ?_
        refine g_iload_n X 1 rfl dX6_stride_85 rfl ?_
        refine g_iconst X (z := 5) dX6_stride_86 rfl ?_
        refine g_iadd X dX6_stride_87 rfl ?_
        refine g_iald X (hμ.mem 1 (by decide)) hM_15 ⟨by omega, by omega⟩ (by decide) dX6_stride_88 rfl ?_
        have hr_29 : g_17 ((70 + 10 * i) + 5) = g ((70 + 10 * i) + 5) := by rw [hg_18, up_ne _ _ (by omega)]
        refine g_st (st' := [.int (iI (g ((70 + 10 * i) + 5))), .int (iI ((70 + 10 * i) + 4)), .ref (μ 1)]) (by rw [hr_29]) ?_
        refine g_iload_n X 4 rfl dX6_stride_89 rfl ?_
        refine g_iadd X dX6_stride_90 rfl ?_
        refine g_sipush X (z := 4096) (by decide +kernel) dX6_stride_91 rfl ?_
        refine g_irem X ⟨⟨by omega, by omega⟩, by omega, by omega⟩ dX6_stride_94 rfl ?_
        refine g_iast X (hμ.mem 1 (by decide)) hM_15 ⟨by omega, by omega⟩ (by decide) dX6_stride_95 rfl (fun M_30 hM_31 fr_32 => ?_)
        obtain ⟨g_33, hg_34⟩ : ∃ x : Int → Int, x = up g_17 ((70 + 10 * i) + 4) ((g ((70 + 10 * i) + 5) + v) % 4096) := ⟨_, rfl⟩
        rw [← hg_34] at hM_31
        have hM_35 : M_30 (μ 0) = .inr (6, [.ref (μ 1), .ref (μ 2), .ref (μ 3), .ref (μ 4), .ref (μ 5), .ref (μ 6), .ref (μ 7), .ref (μ 8), .int (iI (q 0)), .int (iI (q 1)), .int (iI (q 2)), .int (iI (q 3))]) := (fr_32 (μ 0) (hμ.ne (i := 0) (j := 1) (by decide) (by decide) (by decide))).trans hM_19
        have hM_36 : M_30 (μ 3) = cI ca 110 tr := (fr_32 (μ 3) (hμ.ne (i := 3) (j := 1) (by decide) (by decide) (by decide))).trans hM_20
        have hM_37 : M_30 (μ 4) = cI ca 660 be := (fr_32 (μ 4) (hμ.ne (i := 4) (j := 1) (by decide) (by decide) (by decide))).trans hM_21
        have hM_38 : M_30 (μ 5) = cI ca 220 sa := (fr_32 (μ 5) (hμ.ne (i := 5) (j := 1) (by decide) (by decide) (by decide))).trans hM_22
        have hM_39 : M_30 (μ 6) = cZ ca 2 iz := (fr_32 (μ 6) (hμ.ne (i := 6) (j := 1) (by decide) (by decide) (by decide))).trans hM_23
        have hM_40 : M_30 (μ 7) = cI ca 33 rd := (fr_32 (μ 7) (hμ.ne (i := 7) (j := 1) (by decide) (by decide) (by decide))).trans hM_24
        have hM_41 : M_30 (μ 8) = cC ca 60 pa := (fr_32 (μ 8) (hμ.ne (i := 8) (j := 1) (by decide) (by decide) (by decide))).trans hM_25
        have hM_42 : M_30 (μ 2) = cI ca 110 g := (fr_32 (μ 2) (hμ.ne (i := 2) (j := 1) (by decide) (by decide) (by decide))).trans hM_26
        refine g_aload_n X 2 rfl dX6_stride_96 rfl ?_
        refine g_iload X 0 rfl dX6_stride_97 rfl ?_
        refine g_callV X (ct_X6_recorded l μ q g_33 g be (g ((70 + 10 * i) + 1))) (As := [.int (iI (g ((70 + 10 * i) + 1)))]) (rest := []) cl_X6 rfl ca_X6_recorded rfl wm_X6_85 wi_X6_recorded ws_X6_recorded wc_X6_recorded w0_X6 ⟨by decide, by decide⟩ (hμ.mem 0 (by decide)) hM_35 (by decide) ⟨by decide, by decide⟩ rfl dX6_stride_99 rfl ⟨rfl, hμ, hM_35, hM_31, hM_42, hM_37, hq1.1, hq1.2⟩ (fun r1 L1 M_43 hq => ?_)
        obtain ⟨rfl, rfl, hM_44, hM_45, fr_46⟩ := hq
        have hM_47 : M_43 (μ 3) = cI ca 110 tr := (fr_46 _ (hμ.ne (i := 3) (j := 0) (by decide) (by decide) (by decide)) (hμ.ne (i := 3) (j := 4) (by decide) (by decide) (by decide))).trans hM_36
        have hM_48 : M_43 (μ 5) = cI ca 220 sa := (fr_46 _ (hμ.ne (i := 5) (j := 0) (by decide) (by decide) (by decide)) (hμ.ne (i := 5) (j := 4) (by decide) (by decide) (by decide))).trans hM_38
        have hM_49 : M_43 (μ 6) = cZ ca 2 iz := (fr_46 _ (hμ.ne (i := 6) (j := 0) (by decide) (by decide) (by decide)) (hμ.ne (i := 6) (j := 4) (by decide) (by decide) (by decide))).trans hM_39
        have hM_50 : M_43 (μ 7) = cI ca 33 rd := (fr_46 _ (hμ.ne (i := 7) (j := 0) (by decide) (by decide) (by decide)) (hμ.ne (i := 7) (j := 4) (by decide) (by decide) (by decide))).trans hM_40
        have hM_51 : M_43 (μ 8) = cC ca 60 pa := (fr_46 _ (hμ.ne (i := 8) (j := 0) (by decide) (by decide) (by decide)) (hμ.ne (i := 8) (j := 4) (by decide) (by decide) (by decide))).trans hM_41
        have hM_52 : M_43 (μ 2) = cI ca 110 g := (fr_46 _ (hμ.ne (i := 2) (j := 0) (by decide) (by decide) (by decide)) (hμ.ne (i := 2) (j := 4) (by decide) (by decide) (by decide))).trans hM_42
        have hM_53 : M_43 (μ 1) = cI ca 110 g_33 := (fr_46 _ (hμ.ne (i := 1) (j := 0) (by decide) (by decide) (by decide)) (hμ.ne (i := 1) (j := 4) (by decide) (by decide) (by decide))).trans hM_31
        refine g_st (st' := [.int (iI (g ((70 + 10 * i) + 1)))]) rfl ?_
        subst hg_34 hg_18
        exact g_iret X hret ⟨Nat.le_of_ble_eq_true rfl, Nat.le_of_ble_eq_true rfl⟩ dX6_stride_102 ⟨by rw [anStride, if_pos h_1, if_pos h_2], rfl, by rw [opStride, if_pos ⟨h_1, h_2⟩, strG, if_neg (by first | omega | (dsimp only; omega))]; exact ⟨(up q 1 (recN (q 1))), _, _, _, rfl, rfl, hM_44, hM_53, hM_52, hM_47, hM_45, hM_48, hM_49, hM_50, hM_51⟩, (fun b hb => ((fr_46 b (hb 0 (by decide)) (hb 4 (by decide))).trans ((fr_32 b (hb 1 (by decide))).trans ((fr_16 b (hb 1 (by decide))).trans (fr_5 b (hb 2 (by decide)))))))⟩
      · refine g_aload_n X 2 rfl dX6_stride_70 rfl ?_
        refine g_get X cl_X6 0 (by decide) wf_X6_7 rfl (hμ.mem 0 (by decide)) hM_19 rfl dX6_stride_71 rfl ?_
        refine g_iload_n X 1 rfl dX6_stride_74 rfl ?_
        refine g_iconst X (z := 0) dX6_stride_75 rfl ?_
        refine g_iadd X dX6_stride_76 rfl ?_
        refine g_st (st' := [.int (iI (70 + 10 * i)), .ref (μ 1), .int (iI ((70 + 10 * i) + 4)), .ref (μ 1)]) (by rw [Int.add_zero]) ?_
        refine g_iald X (hμ.mem 1 (by decide)) hM_15 ⟨by omega, by omega⟩ (by decide) dX6_stride_77 rfl ?_
        have hr_54 : g_17 (70 + 10 * i) = g (70 + 10 * i) := by rw [hg_18, up_ne _ _ (by omega)]
        refine g_st (st' := [.int (iI (g (70 + 10 * i))), .int (iI ((70 + 10 * i) + 4)), .ref (μ 1)]) (by rw [hr_54]) ?_
        refine g_goto X (n := 95) dX6_stride_78 (by decide) ?_
        refine g_iast X (hμ.mem 1 (by decide)) hM_15 ⟨by omega, by omega⟩ (by decide) dX6_stride_95 rfl (fun M_55 hM_56 fr_57 => ?_)
        obtain ⟨g_58, hg_59⟩ : ∃ x : Int → Int, x = up g_17 ((70 + 10 * i) + 4) (g (70 + 10 * i)) := ⟨_, rfl⟩
        rw [← hg_59] at hM_56
        have hM_60 : M_55 (μ 0) = .inr (6, [.ref (μ 1), .ref (μ 2), .ref (μ 3), .ref (μ 4), .ref (μ 5), .ref (μ 6), .ref (μ 7), .ref (μ 8), .int (iI (q 0)), .int (iI (q 1)), .int (iI (q 2)), .int (iI (q 3))]) := (fr_57 (μ 0) (hμ.ne (i := 0) (j := 1) (by decide) (by decide) (by decide))).trans hM_19
        have hM_61 : M_55 (μ 3) = cI ca 110 tr := (fr_57 (μ 3) (hμ.ne (i := 3) (j := 1) (by decide) (by decide) (by decide))).trans hM_20
        have hM_62 : M_55 (μ 4) = cI ca 660 be := (fr_57 (μ 4) (hμ.ne (i := 4) (j := 1) (by decide) (by decide) (by decide))).trans hM_21
        have hM_63 : M_55 (μ 5) = cI ca 220 sa := (fr_57 (μ 5) (hμ.ne (i := 5) (j := 1) (by decide) (by decide) (by decide))).trans hM_22
        have hM_64 : M_55 (μ 6) = cZ ca 2 iz := (fr_57 (μ 6) (hμ.ne (i := 6) (j := 1) (by decide) (by decide) (by decide))).trans hM_23
        have hM_65 : M_55 (μ 7) = cI ca 33 rd := (fr_57 (μ 7) (hμ.ne (i := 7) (j := 1) (by decide) (by decide) (by decide))).trans hM_24
        have hM_66 : M_55 (μ 8) = cC ca 60 pa := (fr_57 (μ 8) (hμ.ne (i := 8) (j := 1) (by decide) (by decide) (by decide))).trans hM_25
        have hM_67 : M_55 (μ 2) = cI ca 110 g := (fr_57 (μ 2) (hμ.ne (i := 2) (j := 1) (by decide) (by decide) (by decide))).trans hM_26
        refine g_aload_n X 2 rfl dX6_stride_96 rfl ?_
        refine g_iload X 0 rfl dX6_stride_97 rfl ?_
        refine g_callV X (ct_X6_recorded l μ q g_58 g be (g ((70 + 10 * i) + 1))) (As := [.int (iI (g ((70 + 10 * i) + 1)))]) (rest := []) cl_X6 rfl ca_X6_recorded rfl wm_X6_85 wi_X6_recorded ws_X6_recorded wc_X6_recorded w0_X6 ⟨by decide, by decide⟩ (hμ.mem 0 (by decide)) hM_60 (by decide) ⟨by decide, by decide⟩ rfl dX6_stride_99 rfl ⟨rfl, hμ, hM_60, hM_56, hM_67, hM_62, hq1.1, hq1.2⟩ (fun r1 L1 M_68 hq => ?_)
        obtain ⟨rfl, rfl, hM_69, hM_70, fr_71⟩ := hq
        have hM_72 : M_68 (μ 3) = cI ca 110 tr := (fr_71 _ (hμ.ne (i := 3) (j := 0) (by decide) (by decide) (by decide)) (hμ.ne (i := 3) (j := 4) (by decide) (by decide) (by decide))).trans hM_61
        have hM_73 : M_68 (μ 5) = cI ca 220 sa := (fr_71 _ (hμ.ne (i := 5) (j := 0) (by decide) (by decide) (by decide)) (hμ.ne (i := 5) (j := 4) (by decide) (by decide) (by decide))).trans hM_63
        have hM_74 : M_68 (μ 6) = cZ ca 2 iz := (fr_71 _ (hμ.ne (i := 6) (j := 0) (by decide) (by decide) (by decide)) (hμ.ne (i := 6) (j := 4) (by decide) (by decide) (by decide))).trans hM_64
        have hM_75 : M_68 (μ 7) = cI ca 33 rd := (fr_71 _ (hμ.ne (i := 7) (j := 0) (by decide) (by decide) (by decide)) (hμ.ne (i := 7) (j := 4) (by decide) (by decide) (by decide))).trans hM_65
        have hM_76 : M_68 (μ 8) = cC ca 60 pa := (fr_71 _ (hμ.ne (i := 8) (j := 0) (by decide) (by decide) (by decide)) (hμ.ne (i := 8) (j := 4) (by decide) (by decide) (by decide))).trans hM_66
        have hM_77 : M_68 (μ 2) = cI ca 110 g := (fr_71 _ (hμ.ne (i := 2) (j := 0) (by decide) (by decide) (by decide)) (hμ.ne (i := 2) (j := 4) (by decide) (by decide) (by decide))).trans hM_67
        have hM_78 : M_68 (μ 1) = cI ca 110 g_58 := (fr_71 _ (hμ.ne (i := 1) (j := 0) (by decide) (by decide) (by decide)) (hμ.ne (i := 1) (j := 4) (by decide) (by decide) (by decide))).trans hM_56
        refine g_st (st' := [.int (iI (g ((70 + 10 * i) + 1)))]) rfl ?_
        subst hg_59 hg_18
        exact g_iret X hret ⟨Nat.le_of_ble_eq_true rfl, Nat.le_of_ble_eq_true rfl⟩ dX6_stride_102 ⟨by rw [anStride, if_pos h_1, if_pos h_2], rfl, by rw [opStride, if_pos ⟨h_1, h_2⟩, strG, if_pos (by first | omega | (dsimp only; omega))]; exact ⟨(up q 1 (recN (q 1))), _, _, _, rfl, rfl, hM_69, hM_78, hM_77, hM_72, hM_70, hM_73, hM_74, hM_75, hM_76⟩, (fun b hb => ((fr_71 b (hb 0 (by decide)) (hb 4 (by decide))).trans ((fr_57 b (hb 1 (by decide))).trans ((fr_16 b (hb 1 (by decide))).trans (fr_5 b (hb 2 (by decide)))))))⟩
    · refine g_bipush X (z := -2) (by decide +kernel) dX6_stride_21 rfl ?_
      exact g_iret X hret ⟨Nat.le_of_ble_eq_true rfl, Nat.le_of_ble_eq_true rfl⟩ dX6_stride_23 ⟨by rw [anStride, if_pos h_1, if_neg h_2], rfl, by rw [opStride, if_neg (fun q => h_2 q.2)]; exact ⟨q, _, _, _, rfl, rfl, hMo, hMs, hM2, hM3, hM4, hM5, hM6, hM7, hM8⟩, (fun b hb => rfl)⟩
  · refine g_iconst X (z := -1) dX6_stride_8 rfl ?_
    exact g_iret X hret ⟨Nat.le_of_ble_eq_true rfl, Nat.le_of_ble_eq_true rfl⟩ dX6_stride_9 ⟨by rw [anStride, if_neg h_1], rfl, by rw [opStride, if_neg (fun q => h_1 q.1)]; exact ⟨q, _, _, _, rfl, rfl, hMo, hMs, hM2, hM3, hM4, hM5, hM6, hM7, hM8⟩, (fun b hb => rfl)⟩
