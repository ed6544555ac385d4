/-! the reference: what there is, saved states -/
set_option maxRecDepth 100000 in
set_option maxHeartbeats 4000000 in
theorem ct_X6_clashes (l : Launch) (μ : Nat → Nat) (q g : Int → Int) (sp tr be sa iz rd pa : Int → Int) (a b0 : Int) : Ct l yX6_clashes cX6_clashes 5 (some .int) 6 0 0 (fun ca av L M => av = [.ref (μ 0), .int (iI a), .int (iI b0)] ∧ MuOk μ L ∧ M (μ 0) = oMd μ q ∧ M (μ 1) = cI ca 110 g ∧ M (μ 2) = cI ca 110 sp ∧ M (μ 3) = cI ca 110 tr ∧ M (μ 4) = cI ca 660 be ∧ M (μ 5) = cI ca 220 sa ∧ M (μ 6) = cZ ca 2 iz ∧ M (μ 7) = cI ca 33 rd ∧ M (μ 8) = cC ca 60 pa ∧ Inv g ∧ (0 ≤ q 0 ∧ q 0 ≤ 60) ∧ (0 ≤ q 1 ∧ q 1 ≤ 6) ∧ R32 a ∧ R32 b0) (fun ca av L M r L1 M1 => r = some (.int (iI (anClash (g, be, sa, iz, pa, q 0, q 1) a b0))) ∧ L = L1 ∧ Md ca M1 μ ((g, be, sa, iz, pa, q 0, q 1)) ∧ ∀ b, (∀ i, i < 9 → b ≠ μ i) → M1 b = M b) := by
  refine Ct_of (own := RX6) (by decide) rfl (by rintro _ _ _ _ ⟨rfl, _⟩; exact Nat.le_of_ble_eq_true rfl) ?_
  rintro p e s m args below meth c D ca A av L M ⟨rfl, hμ, hMo, hMs, hM2, hM3, hM4, hM5, hM6, hM7, hM8, hI, hq0, hq1, ha, hb0⟩ X hret hname
  refine g_lv (lv' := [(0, .ref (μ 0)), (1, .int (iI a)), (2, .int (iI b0))]) [0, 1, 2] rfl ?_
  obtain ⟨⟨i00, i01⟩, ⟨i10, i11⟩, ⟨i20, i21⟩, ⟨i30, i31⟩, ⟨i40, i41⟩, i50, i51⟩ := id hI.1
  refine g_aload_n X 0 rfl dX6_clashes_0 rfl ?_
  refine g_iload_n X 1 rfl dX6_clashes_1 rfl ?_
  refine g_callV X (ct_X6_isStream l μ q g a) (As := [.int (iI a)]) (rest := []) cl_X6 rfl ca_X6_isStream rfl wm_X6_92 wi_X6_isStream ws_X6_isStream wc_X6_isStream w0_X6 ⟨by decide, by decide⟩ (hμ.mem 0 (by decide)) hMo (by decide) ⟨by decide, by decide⟩ rfl dX6_clashes_2 rfl ⟨rfl, hμ, hMo, hMs, ha, by omega, by omega⟩ (fun r1 L1 M1 hq => ?_)
  obtain ⟨rfl, rfl, rfl⟩ := hq
  refine g_st (st' := [.int (iI (if 0 ≤ a ∧ a ≤ g 5 - 1 then 1 else 0))]) rfl ?_
  refine g_if_eqb X (tgt := 16) dX6_clashes_5 (by decide) rfl (fun h_1 => ?_) (fun h_1 => ?_)
  · refine g_iconst X (z := -1) dX6_clashes_16 rfl ?_
    exact g_iret X hret ⟨Nat.le_of_ble_eq_true rfl, Nat.le_of_ble_eq_true rfl⟩ dX6_clashes_17 ⟨by rw [anClash, if_neg (fun q => h_1 q.1)], rfl, ⟨q, _, _, _, rfl, rfl, hMo, hMs, hM2, hM3, hM4, hM5, hM6, hM7, hM8⟩, (fun b hb => rfl)⟩
  · refine g_aload_n X 0 rfl dX6_clashes_8 rfl ?_
    refine g_iload_n X 2 rfl dX6_clashes_9 rfl ?_
    refine g_callV X (ct_X6_isStream l μ q g b0) (As := [.int (iI b0)]) (rest := []) cl_X6 rfl ca_X6_isStream rfl wm_X6_92 wi_X6_isStream ws_X6_isStream wc_X6_isStream w0_X6 ⟨by decide, by decide⟩ (hμ.mem 0 (by decide)) hMo (by decide) ⟨by decide, by decide⟩ rfl dX6_clashes_10 rfl ⟨rfl, hμ, hMo, hMs, hb0, by omega, by omega⟩ (fun r1 L1 M1 hq => ?_)
    obtain ⟨rfl, rfl, rfl⟩ := hq
    refine g_st (st' := [.int (iI (if 0 ≤ b0 ∧ b0 ≤ g 5 - 1 then 1 else 0))]) rfl ?_
    refine g_if_neb X (tgt := 18) dX6_clashes_13 (by decide) rfl (fun h_2 => ?_) (fun h_2 => ?_)
    · refine g_iload_n X 1 rfl dX6_clashes_18 rfl ?_
      refine g_iload_n X 2 rfl dX6_clashes_19 rfl ?_
      refine g_icmp_ne X ha hb0 (tgt := 26) dX6_clashes_20 (by decide) rfl (fun h_3 => ?_) (fun h_3 => ?_)
      · refine g_aload_n X 0 rfl dX6_clashes_26 rfl ?_
        have ok := cl_ok hI (a := a) (b := b0) (by omega) (by omega)
        have okI := bga_inv ok.1 ok.2.1
        have ok4 := bga_cyc (clG g a b0)
        refine g_callV X (ct_X6_keepTrial l μ q g tr) (As := []) (rest := []) cl_X6 rfl ca_X6_keepTrial rfl wm_X6_138 wi_X6_keepTrial ws_X6_keepTrial wc_X6_keepTrial w0_X6 ⟨by decide, by decide⟩ (hμ.mem 0 (by decide)) hMo (by decide) ⟨by decide, by decide⟩ rfl dX6_clashes_27 rfl ⟨rfl, hμ, hMo, hMs, hM3⟩ (fun r1 L1 M_4 hq => ?_)
        obtain ⟨rfl, rfl, hM_5, fr_6⟩ := hq
        have hM_7 : M_4 (μ 0) = .inr (6, [.ref (μ 1), .ref (μ 2), .ref (μ 3), .ref (μ 4), .ref (μ 5), .ref (μ 6), .ref (μ 7), .ref (μ 8), .int (iI (q 0)), .int (iI (q 1)), .int (iI (q 2)), .int (iI (q 3))]) := (fr_6 (μ 0) (hμ.ne (i := 0) (j := 3) (by decide) (by decide) (by decide))).trans hMo
        have hM_8 : M_4 (μ 1) = cI ca 110 g := (fr_6 (μ 1) (hμ.ne (i := 1) (j := 3) (by decide) (by decide) (by decide))).trans hMs
        have hM_9 : M_4 (μ 2) = cI ca 110 sp := (fr_6 (μ 2) (hμ.ne (i := 2) (j := 3) (by decide) (by decide) (by decide))).trans hM2
        have hM_10 : M_4 (μ 4) = cI ca 660 be := (fr_6 (μ 4) (hμ.ne (i := 4) (j := 3) (by decide) (by decide) (by decide))).trans hM4
        have hM_11 : M_4 (μ 5) = cI ca 220 sa := (fr_6 (μ 5) (hμ.ne (i := 5) (j := 3) (by decide) (by decide) (by decide))).trans hM5
        have hM_12 : M_4 (μ 6) = cZ ca 2 iz := (fr_6 (μ 6) (hμ.ne (i := 6) (j := 3) (by decide) (by decide) (by decide))).trans hM6
        have hM_13 : M_4 (μ 7) = cI ca 33 rd := (fr_6 (μ 7) (hμ.ne (i := 7) (j := 3) (by decide) (by decide) (by decide))).trans hM7
        have hM_14 : M_4 (μ 8) = cC ca 60 pa := (fr_6 (μ 8) (hμ.ne (i := 8) (j := 3) (by decide) (by decide) (by decide))).trans hM8
        refine g_st (st' := []) rfl ?_
        refine g_aload_n X 0 rfl dX6_clashes_30 rfl ?_
        refine g_iconst X (z := 0) dX6_clashes_31 rfl ?_
        refine g_iload_n X 1 rfl dX6_clashes_32 rfl ?_
        refine g_iload_n X 2 rfl dX6_clashes_33 rfl ?_
        refine g_icmp_ge X ha hb0 (tgt := 41) dX6_clashes_34 (by decide) rfl (fun h_15 => ?_) (fun h_15 => ?_)
        · refine g_iload_n X 2 rfl dX6_clashes_41 rfl ?_
          refine g_callV X (ct_X6_comes l μ q g g 0 b0) (As := [.int (iI 0), .int (iI b0)]) (rest := []) cl_X6 rfl ca_X6_comes rfl wm_X6_147 wi_X6_comes ws_X6_comes wc_X6_comes w0_X6 ⟨by decide, by decide⟩ (hμ.mem 0 (by decide)) hM_7 (by decide) ⟨by decide, by decide⟩ rfl dX6_clashes_42 rfl ⟨rfl, hμ, hM_7, hM_8, hM_5, by omega, by omega⟩ (fun r1 L1 M_16 hq => ?_)
          obtain ⟨rfl, rfl, hM_17, fr_18⟩ := hq
          have hM_19 : M_16 (μ 0) = .inr (6, [.ref (μ 1), .ref (μ 2), .ref (μ 3), .ref (μ 4), .ref (μ 5), .ref (μ 6), .ref (μ 7), .ref (μ 8), .int (iI (q 0)), .int (iI (q 1)), .int (iI (q 2)), .int (iI (q 3))]) := (fr_18 (μ 0) (hμ.ne (i := 0) (j := 1) (by decide) (by decide) (by decide))).trans hM_7
          have hM_20 : M_16 (μ 2) = cI ca 110 sp := (fr_18 (μ 2) (hμ.ne (i := 2) (j := 1) (by decide) (by decide) (by decide))).trans hM_9
          have hM_21 : M_16 (μ 4) = cI ca 660 be := (fr_18 (μ 4) (hμ.ne (i := 4) (j := 1) (by decide) (by decide) (by decide))).trans hM_10
          have hM_22 : M_16 (μ 5) = cI ca 220 sa := (fr_18 (μ 5) (hμ.ne (i := 5) (j := 1) (by decide) (by decide) (by decide))).trans hM_11
          have hM_23 : M_16 (μ 6) = cZ ca 2 iz := (fr_18 (μ 6) (hμ.ne (i := 6) (j := 1) (by decide) (by decide) (by decide))).trans hM_12
          have hM_24 : M_16 (μ 7) = cI ca 33 rd := (fr_18 (μ 7) (hμ.ne (i := 7) (j := 1) (by decide) (by decide) (by decide))).trans hM_13
          have hM_25 : M_16 (μ 8) = cC ca 60 pa := (fr_18 (μ 8) (hμ.ne (i := 8) (j := 1) (by decide) (by decide) (by decide))).trans hM_14
          have hM_26 : M_16 (μ 3) = cI ca 110 g := (fr_18 (μ 3) (hμ.ne (i := 3) (j := 1) (by decide) (by decide) (by decide))).trans hM_5
          refine g_st (st' := []) rfl ?_
          refine g_aload_n X 0 rfl dX6_clashes_45 rfl ?_
          refine g_iconst X (z := 1) dX6_clashes_46 rfl ?_
          refine g_iload_n X 1 rfl dX6_clashes_47 rfl ?_
          refine g_iload_n X 2 rfl dX6_clashes_48 rfl ?_
          refine g_icmp_ge X ha hb0 (tgt := 56) dX6_clashes_49 (by decide) rfl (fun h_27 => ?_) (fun h_27 => ?_)
          · refine g_iload_n X 1 rfl dX6_clashes_56 rfl ?_
            refine g_callV X (ct_X6_comes l μ q (cmG 10 0 b0 g g) g 1 a) (As := [.int (iI 1), .int (iI a)]) (rest := []) cl_X6 rfl ca_X6_comes rfl wm_X6_147 wi_X6_comes ws_X6_comes wc_X6_comes w0_X6 ⟨by decide, by decide⟩ (hμ.mem 0 (by decide)) hM_19 (by decide) ⟨by decide, by decide⟩ rfl dX6_clashes_57 rfl ⟨rfl, hμ, hM_19, hM_17, hM_26, by omega, by omega⟩ (fun r1 L1 M_28 hq => ?_)
            obtain ⟨rfl, rfl, hM_29, fr_30⟩ := hq
            have hM_31 : M_28 (μ 0) = .inr (6, [.ref (μ 1), .ref (μ 2), .ref (μ 3), .ref (μ 4), .ref (μ 5), .ref (μ 6), .ref (μ 7), .ref (μ 8), .int (iI (q 0)), .int (iI (q 1)), .int (iI (q 2)), .int (iI (q 3))]) := (fr_30 (μ 0) (hμ.ne (i := 0) (j := 1) (by decide) (by decide) (by decide))).trans hM_19
            have hM_32 : M_28 (μ 2) = cI ca 110 sp := (fr_30 (μ 2) (hμ.ne (i := 2) (j := 1) (by decide) (by decide) (by decide))).trans hM_20
            have hM_33 : M_28 (μ 4) = cI ca 660 be := (fr_30 (μ 4) (hμ.ne (i := 4) (j := 1) (by decide) (by decide) (by decide))).trans hM_21
            have hM_34 : M_28 (μ 5) = cI ca 220 sa := (fr_30 (μ 5) (hμ.ne (i := 5) (j := 1) (by decide) (by decide) (by decide))).trans hM_22
            have hM_35 : M_28 (μ 6) = cZ ca 2 iz := (fr_30 (μ 6) (hμ.ne (i := 6) (j := 1) (by decide) (by decide) (by decide))).trans hM_23
            have hM_36 : M_28 (μ 7) = cI ca 33 rd := (fr_30 (μ 7) (hμ.ne (i := 7) (j := 1) (by decide) (by decide) (by decide))).trans hM_24
            have hM_37 : M_28 (μ 8) = cC ca 60 pa := (fr_30 (μ 8) (hμ.ne (i := 8) (j := 1) (by decide) (by decide) (by decide))).trans hM_25
            have hM_38 : M_28 (μ 3) = cI ca 110 g := (fr_30 (μ 3) (hμ.ne (i := 3) (j := 1) (by decide) (by decide) (by decide))).trans hM_26
            refine g_st (st' := []) rfl ?_
            refine g_aload_n X 0 rfl dX6_clashes_60 rfl ?_
            refine g_get X cl_X6 0 (by decide) wf_X6_7 rfl (hμ.mem 0 (by decide)) hM_31 rfl dX6_clashes_61 rfl ?_
            refine g_iconst X (z := 5) dX6_clashes_64 rfl ?_
            refine g_iconst X (z := 2) dX6_clashes_65 rfl ?_
            refine g_iast X (hμ.mem 1 (by decide)) hM_29 ⟨by decide, by decide⟩ (by decide) dX6_clashes_66 rfl (fun M_39 hM_40 fr_41 => ?_)
            obtain ⟨g_42, hg_43⟩ : ∃ x : Int → Int, x = up (cmG 10 1 a g (cmG 10 0 b0 g g)) 5 2 := ⟨_, rfl⟩
            rw [← hg_43] at hM_40
            have hM_44 : M_39 (μ 0) = .inr (6, [.ref (μ 1), .ref (μ 2), .ref (μ 3), .ref (μ 4), .ref (μ 5), .ref (μ 6), .ref (μ 7), .ref (μ 8), .int (iI (q 0)), .int (iI (q 1)), .int (iI (q 2)), .int (iI (q 3))]) := (fr_41 (μ 0) (hμ.ne (i := 0) (j := 1) (by decide) (by decide) (by decide))).trans hM_31
            have hM_45 : M_39 (μ 2) = cI ca 110 sp := (fr_41 (μ 2) (hμ.ne (i := 2) (j := 1) (by decide) (by decide) (by decide))).trans hM_32
            have hM_46 : M_39 (μ 4) = cI ca 660 be := (fr_41 (μ 4) (hμ.ne (i := 4) (j := 1) (by decide) (by decide) (by decide))).trans hM_33
            have hM_47 : M_39 (μ 5) = cI ca 220 sa := (fr_41 (μ 5) (hμ.ne (i := 5) (j := 1) (by decide) (by decide) (by decide))).trans hM_34
            have hM_48 : M_39 (μ 6) = cZ ca 2 iz := (fr_41 (μ 6) (hμ.ne (i := 6) (j := 1) (by decide) (by decide) (by decide))).trans hM_35
            have hM_49 : M_39 (μ 7) = cI ca 33 rd := (fr_41 (μ 7) (hμ.ne (i := 7) (j := 1) (by decide) (by decide) (by decide))).trans hM_36
            have hM_50 : M_39 (μ 8) = cC ca 60 pa := (fr_41 (μ 8) (hμ.ne (i := 8) (j := 1) (by decide) (by decide) (by decide))).trans hM_37
            have hM_51 : M_39 (μ 3) = cI ca 110 g := (fr_41 (μ 3) (hμ.ne (i := 3) (j := 1) (by decide) (by decide) (by decide))).trans hM_38
            refine g_aload_n X 0 rfl dX6_clashes_67 rfl ?_
            refine g_callV X (ct_X6_beginsAnew l μ q g_42) (As := []) (rest := []) cl_X6 rfl ca_X6_beginsAnew rfl wm_X6_82 wi_X6_beginsAnew ws_X6_beginsAnew wc_X6_beginsAnew w0_X6 ⟨by decide, by decide⟩ (hμ.mem 0 (by decide)) hM_44 (by decide) ⟨by decide, by decide⟩ rfl dX6_clashes_68 rfl ⟨rfl, hμ, hM_44, hM_40, by have e := ok.2.2; rw [clG, if_neg (by omega), if_neg (by omega)] at e; rw [hg_43, e]; decide, by have e := ok.2.2; rw [clG, if_neg (by omega), if_neg (by omega)] at e; rw [hg_43, e]; decide⟩ (fun r1 L1 M_52 hq => ?_)
            obtain ⟨rfl, rfl, hM_53, fr_54⟩ := hq
            have hM_55 : M_52 (μ 0) = .inr (6, [.ref (μ 1), .ref (μ 2), .ref (μ 3), .ref (μ 4), .ref (μ 5), .ref (μ 6), .ref (μ 7), .ref (μ 8), .int (iI (q 0)), .int (iI (q 1)), .int (iI (q 2)), .int (iI (q 3))]) := (fr_54 (μ 0) (hμ.ne (i := 0) (j := 1) (by decide) (by decide) (by decide))).trans hM_44
            have hM_56 : M_52 (μ 2) = cI ca 110 sp := (fr_54 (μ 2) (hμ.ne (i := 2) (j := 1) (by decide) (by decide) (by decide))).trans hM_45
            have hM_57 : M_52 (μ 4) = cI ca 660 be := (fr_54 (μ 4) (hμ.ne (i := 4) (j := 1) (by decide) (by decide) (by decide))).trans hM_46
            have hM_58 : M_52 (μ 5) = cI ca 220 sa := (fr_54 (μ 5) (hμ.ne (i := 5) (j := 1) (by decide) (by decide) (by decide))).trans hM_47
            have hM_59 : M_52 (μ 6) = cZ ca 2 iz := (fr_54 (μ 6) (hμ.ne (i := 6) (j := 1) (by decide) (by decide) (by decide))).trans hM_48
            have hM_60 : M_52 (μ 7) = cI ca 33 rd := (fr_54 (μ 7) (hμ.ne (i := 7) (j := 1) (by decide) (by decide) (by decide))).trans hM_49
            have hM_61 : M_52 (μ 8) = cC ca 60 pa := (fr_54 (μ 8) (hμ.ne (i := 8) (j := 1) (by decide) (by decide) (by decide))).trans hM_50
            have hM_62 : M_52 (μ 3) = cI ca 110 g := (fr_54 (μ 3) (hμ.ne (i := 3) (j := 1) (by decide) (by decide) (by decide))).trans hM_51
            refine g_st (st' := []) rfl ?_
            refine g_aload_n X 0 rfl dX6_clashes_71 rfl ?_
            refine g_callV X (ct_X6_runsOut l μ q (bgaG g_42)) (As := []) (rest := []) cl_X6 rfl ca_X6_runsOut rfl wm_X6_141 wi_X6_runsOut ws_X6_runsOut wc_X6_runsOut w0_X6 ⟨by decide, by decide⟩ (hμ.mem 0 (by decide)) hM_55 (by decide) ⟨by decide, by decide⟩ rfl dX6_clashes_72 rfl ⟨rfl, hμ, hM_55, hM_53, by have e := okI; rw [clG, if_neg (by omega), if_neg (by omega)] at e; rw [hg_43]; exact e, by have e := ok4; rw [clG, if_neg (by omega), if_neg (by omega)] at e; rw [hg_43, e]; decide⟩ (fun r1 L1 M_63 hq => ?_)
            obtain ⟨rfl, rfl, hM_64, fr_65⟩ := hq
            have hM_66 : M_63 (μ 0) = .inr (6, [.ref (μ 1), .ref (μ 2), .ref (μ 3), .ref (μ 4), .ref (μ 5), .ref (μ 6), .ref (μ 7), .ref (μ 8), .int (iI (q 0)), .int (iI (q 1)), .int (iI (q 2)), .int (iI (q 3))]) := (fr_65 (μ 0) (hμ.ne (i := 0) (j := 1) (by decide) (by decide) (by decide))).trans hM_55
            have hM_67 : M_63 (μ 2) = cI ca 110 sp := (fr_65 (μ 2) (hμ.ne (i := 2) (j := 1) (by decide) (by decide) (by decide))).trans hM_56
            have hM_68 : M_63 (μ 4) = cI ca 660 be := (fr_65 (μ 4) (hμ.ne (i := 4) (j := 1) (by decide) (by decide) (by decide))).trans hM_57
            have hM_69 : M_63 (μ 5) = cI ca 220 sa := (fr_65 (μ 5) (hμ.ne (i := 5) (j := 1) (by decide) (by decide) (by decide))).trans hM_58
            have hM_70 : M_63 (μ 6) = cZ ca 2 iz := (fr_65 (μ 6) (hμ.ne (i := 6) (j := 1) (by decide) (by decide) (by decide))).trans hM_59
            have hM_71 : M_63 (μ 7) = cI ca 33 rd := (fr_65 (μ 7) (hμ.ne (i := 7) (j := 1) (by decide) (by decide) (by decide))).trans hM_60
            have hM_72 : M_63 (μ 8) = cC ca 60 pa := (fr_65 (μ 8) (hμ.ne (i := 8) (j := 1) (by decide) (by decide) (by decide))).trans hM_61
            have hM_73 : M_63 (μ 3) = cI ca 110 g := (fr_65 (μ 3) (hμ.ne (i := 3) (j := 1) (by decide) (by decide) (by decide))).trans hM_62
            refine g_st (st' := [.int (iI (roC 20000 (bgaG g_42)))]) rfl ?_
            refine g_istore_n X (lv' := [(3, .int (iI (roC 20000 (bgaG g_42)))), (0, .ref (μ 0)), (1, .int (iI a)), (2, .int (iI b0))]) (by decide) rfl dX6_clashes_75 rfl ?_
            refine g_aload_n X 1 rfl dX6_clashes_76 rfl ?_
            refine g_bipush X (z := 9) (by decide +kernel) dX6_clashes_77 rfl ?_
            refine g_callV X (ct_X6_ofStreams l μ q (roS 20000 (bgaG g_42)) 9) (As := [.int (iI 9)]) (rest := []) cl_X6 rfl ca_X6_ofStreams rfl wm_X6_132 wi_X6_ofStreams ws_X6_ofStreams wc_X6_ofStreams w0_X6 ⟨by decide, by decide⟩ (hμ.mem 0 (by decide)) hM_66 (by decide) ⟨by decide, by decide⟩ rfl dX6_clashes_79 rfl ⟨rfl, hμ, hM_66, hM_64, ⟨by decide, by decide⟩, by have e := okI; rw [clG, if_neg (by omega), if_neg (by omega)] at e; rw [hg_43]; have e2 := ro_inv 20000 e (by have e3 := ok4; rw [clG, if_neg (by omega), if_neg (by omega)] at e3; omega); have e4 := e2.1.1.2.2.2.2.2; omega, by have e := okI; rw [clG, if_neg (by omega), if_neg (by omega)] at e; rw [hg_43]; have e2 := ro_inv 20000 e (by have e3 := ok4; rw [clG, if_neg (by omega), if_neg (by omega)] at e3; omega); have e4 := e2.1.1.2.2.2.2.2; omega⟩ (fun r1 L1 M1 hq => ?_)
            obtain ⟨rfl, rfl, rfl⟩ := hq
            refine g_st (st' := [.int (iI (ofG (roS 20000 (bgaG g_42)) 9))]) rfl ?_
            refine g_istore X (lv' := [(4, .int (iI (ofG (roS 20000 (bgaG g_42)) 9))), (3, .int (iI (roC 20000 (bgaG g_42)))), (0, .ref (μ 0)), (1, .int (iI a)), (2, .int (iI b0))]) (by decide) rfl dX6_clashes_82 rfl ?_
            refine g_aload_n X 2 rfl dX6_clashes_84 rfl ?_
            refine g_callV X (ct_X6_putBack l μ q (roS 20000 (bgaG g_42)) g) (As := []) (rest := []) cl_X6 rfl ca_X6_putBack rfl wm_X6_144 wi_X6_putBack ws_X6_putBack wc_X6_putBack w0_X6 ⟨by decide, by decide⟩ (hμ.mem 0 (by decide)) hM_66 (by decide) ⟨by decide, by decide⟩ rfl dX6_clashes_85 rfl ⟨rfl, hμ, hM_66, hM_64, hM_73⟩ (fun r1 L1 M_74 hq => ?_)
            obtain ⟨rfl, rfl, hM_75, fr_76⟩ := hq
            have hM_77 : M_74 (μ 0) = .inr (6, [.ref (μ 1), .ref (μ 2), .ref (μ 3), .ref (μ 4), .ref (μ 5), .ref (μ 6), .ref (μ 7), .ref (μ 8), .int (iI (q 0)), .int (iI (q 1)), .int (iI (q 2)), .int (iI (q 3))]) := (fr_76 (μ 0) (hμ.ne (i := 0) (j := 1) (by decide) (by decide) (by decide))).trans hM_66
            have hM_78 : M_74 (μ 2) = cI ca 110 sp := (fr_76 (μ 2) (hμ.ne (i := 2) (j := 1) (by decide) (by decide) (by decide))).trans hM_67
            have hM_79 : M_74 (μ 4) = cI ca 660 be := (fr_76 (μ 4) (hμ.ne (i := 4) (j := 1) (by decide) (by decide) (by decide))).trans hM_68
            have hM_80 : M_74 (μ 5) = cI ca 220 sa := (fr_76 (μ 5) (hμ.ne (i := 5) (j := 1) (by decide) (by decide) (by decide))).trans hM_69
            have hM_81 : M_74 (μ 6) = cZ ca 2 iz := (fr_76 (μ 6) (hμ.ne (i := 6) (j := 1) (by decide) (by decide) (by decide))).trans hM_70
            have hM_82 : M_74 (μ 7) = cI ca 33 rd := (fr_76 (μ 7) (hμ.ne (i := 7) (j := 1) (by decide) (by decide) (by decide))).trans hM_71
            have hM_83 : M_74 (μ 8) = cC ca 60 pa := (fr_76 (μ 8) (hμ.ne (i := 8) (j := 1) (by decide) (by decide) (by decide))).trans hM_72
            have hM_84 : M_74 (μ 3) = cI ca 110 g := (fr_76 (μ 3) (hμ.ne (i := 3) (j := 1) (by decide) (by decide) (by decide))).trans hM_73
            refine g_st (st' := []) rfl ?_
            refine g_iload X 0 rfl dX6_clashes_88 rfl ?_
            subst hg_43
            exact g_iret X hret ⟨Nat.le_of_ble_eq_true rfl, Nat.le_of_ble_eq_true rfl⟩ dX6_clashes_90 ⟨by rw [anClash, if_pos ⟨h_1, h_2⟩, if_neg (by omega), clC, clG]; simp only []; rw [if_neg (show ¬ a < b0 by omega), if_neg (show ¬ a < b0 by omega)], rfl, ⟨q, _, _, _, rfl, rfl, hM_77, hM_75, hM_78, hM_84, hM_79, hM_80, hM_81, hM_82, hM_83⟩, (fun b hb => ((fr_76 b (hb 1 (by decide))).trans ((fr_65 b (hb 1 (by decide))).trans ((fr_54 b (hb 1 (by decide))).trans ((fr_41 b (hb 1 (by decide))).trans ((fr_30 b (hb 1 (by decide))).trans ((fr_18 b (hb 1 (by decide))).trans (fr_6 b (hb 3 (by decide))))))))))⟩
          · exfalso; omega
        · refine g_iload_n X 1 rfl dX6_clashes_37 rfl ?_
          refine g_goto X (n := 42) dX6_clashes_38 (by decide) ?_
          refine g_callV X (ct_X6_comes l μ q g g 0 a) (As := [.int (iI 0), .int (iI a)]) (rest := []) cl_X6 rfl ca_X6_comes rfl wm_X6_147 wi_X6_comes ws_X6_comes wc_X6_comes w0_X6 ⟨by decide, by decide⟩ (hμ.mem 0 (by decide)) hM_7 (by decide) ⟨by decide, by decide⟩ rfl dX6_clashes_42 rfl ⟨rfl, hμ, hM_7, hM_8, hM_5, by omega, by omega⟩ (fun r1 L1 M_85 hq => ?_)
          obtain ⟨rfl, rfl, hM_86, fr_87⟩ := hq
          have hM_88 : M_85 (μ 0) = .inr (6, [.ref (μ 1), .ref (μ 2), .ref (μ 3), .ref (μ 4), .ref (μ 5), .ref (μ 6), .ref (μ 7), .ref (μ 8), .int (iI (q 0)), .int (iI (q 1)), .int (iI (q 2)), .int (iI (q 3))]) := (fr_87 (μ 0) (hμ.ne (i := 0) (j := 1) (by decide) (by decide) (by decide))).trans hM_7
          have hM_89 : M_85 (μ 2) = cI ca 110 sp := (fr_87 (μ 2) (hμ.ne (i := 2) (j := 1) (by decide) (by decide) (by decide))).trans hM_9
          have hM_90 : M_85 (μ 4) = cI ca 660 be := (fr_87 (μ 4) (hμ.ne (i := 4) (j := 1) (by decide) (by decide) (by decide))).trans hM_10
          have hM_91 : M_85 (μ 5) = cI ca 220 sa := (fr_87 (μ 5) (hμ.ne (i := 5) (j := 1) (by decide) (by decide) (by decide))).trans hM_11
          have hM_92 : M_85 (μ 6) = cZ ca 2 iz := (fr_87 (μ 6) (hμ.ne (i := 6) (j := 1) (by decide) (by decide) (by decide))).trans hM_12
          have hM_93 : M_85 (μ 7) = cI ca 33 rd := (fr_87 (μ 7) (hμ.ne (i := 7) (j := 1) (by decide) (by decide) (by decide))).trans hM_13
          have hM_94 : M_85 (μ 8) = cC ca 60 pa := (fr_87 (μ 8) (hμ.ne (i := 8) (j := 1) (by decide) (by decide) (by decide))).trans hM_14
          have hM_95 : M_85 (μ 3) = cI ca 110 g := (fr_87 (μ 3) (hμ.ne (i := 3) (j := 1) (by decide) (by decide) (by decide))).trans hM_5
          refine g_st (st' := []) rfl ?_
          refine g_aload_n X 0 rfl dX6_clashes_45 rfl ?_
          refine g_iconst X (z := 1) dX6_clashes_46 rfl ?_
          refine g_iload_n X 1 rfl dX6_clashes_47 rfl ?_
          refine g_iload_n X 2 rfl dX6_clashes_48 rfl ?_
          refine g_icmp_ge X ha hb0 (tgt := 56) dX6_clashes_49 (by decide) rfl (fun h_96 => ?_) (fun h_96 => ?_)
          · exfalso; omega
          · refine g_iload_n X 2 rfl dX6_clashes_52 rfl ?_
            refine g_goto X (n := 57) dX6_clashes_53 (by decide) ?_
            refine g_callV X (ct_X6_comes l μ q (cmG 10 0 a g g) g 1 b0) (As := [.int (iI 1), .int (iI b0)]) (rest := []) cl_X6 rfl ca_X6_comes rfl wm_X6_147 wi_X6_comes ws_X6_comes wc_X6_comes w0_X6 ⟨by decide, by decide⟩ (hμ.mem 0 (by decide)) hM_88 (by decide) ⟨by decide, by decide⟩ rfl dX6_clashes_57 rfl ⟨rfl, hμ, hM_88, hM_86, hM_95, by omega, by omega⟩ (fun r1 L1 M_97 hq => ?_)
            obtain ⟨rfl, rfl, hM_98, fr_99⟩ := hq
            have hM_100 : M_97 (μ 0) = .inr (6, [.ref (μ 1), .ref (μ 2), .ref (μ 3), .ref (μ 4), .ref (μ 5), .ref (μ 6), .ref (μ 7), .ref (μ 8), .int (iI (q 0)), .int (iI (q 1)), .int (iI (q 2)), .int (iI (q 3))]) := (fr_99 (μ 0) (hμ.ne (i := 0) (j := 1) (by decide) (by decide) (by decide))).trans hM_88
            have hM_101 : M_97 (μ 2) = cI ca 110 sp := (fr_99 (μ 2) (hμ.ne (i := 2) (j := 1) (by decide) (by decide) (by decide))).trans hM_89
            have hM_102 : M_97 (μ 4) = cI ca 660 be := (fr_99 (μ 4) (hμ.ne (i := 4) (j := 1) (by decide) (by decide) (by decide))).trans hM_90
            have hM_103 : M_97 (μ 5) = cI ca 220 sa := (fr_99 (μ 5) (hμ.ne (i := 5) (j := 1) (by decide) (by decide) (by decide))).trans hM_91
            have hM_104 : M_97 (μ 6) = cZ ca 2 iz := (fr_99 (μ 6) (hμ.ne (i := 6) (j := 1) (by decide) (by decide) (by decide))).trans hM_92
            have hM_105 : M_97 (μ 7) = cI ca 33 rd := (fr_99 (μ 7) (hμ.ne (i := 7) (j := 1) (by decide) (by decide) (by decide))).trans hM_93
            have hM_106 : M_97 (μ 8) = cC ca 60 pa := (fr_99 (μ 8) (hμ.ne (i := 8) (j := 1) (by decide) (by decide) (by decide))).trans hM_94
            have hM_107 : M_97 (μ 3) = cI ca 110 g := (fr_99 (μ 3) (hμ.ne (i := 3) (j := 1) (by decide) (by decide) (by decide))).trans hM_95
            refine g_st (st' := []) rfl ?_
            refine g_aload_n X 0 rfl dX6_clashes_60 rfl ?_
            refine g_get X cl_X6 0 (by decide) wf_X6_7 rfl (hμ.mem 0 (by decide)) hM_100 rfl dX6_clashes_61 rfl ?_
            refine g_iconst X (z := 5) dX6_clashes_64 rfl ?_
            refine g_iconst X (z := 2) dX6_clashes_65 rfl ?_
            refine g_iast X (hμ.mem 1 (by decide)) hM_98 ⟨by decide, by decide⟩ (by decide) dX6_clashes_66 rfl (fun M_108 hM_109 fr_110 => ?_)
            obtain ⟨g_111, hg_112⟩ : ∃ x : Int → Int, x = up (cmG 10 1 b0 g (cmG 10 0 a g g)) 5 2 := ⟨_, rfl⟩
            rw [← hg_112] at hM_109
            have hM_113 : M_108 (μ 0) = .inr (6, [.ref (μ 1), .ref (μ 2), .ref (μ 3), .ref (μ 4), .ref (μ 5), .ref (μ 6), .ref (μ 7), .ref (μ 8), .int (iI (q 0)), .int (iI (q 1)), .int (iI (q 2)), .int (iI (q 3))]) := (fr_110 (μ 0) (hμ.ne (i := 0) (j := 1) (by decide) (by decide) (by decide))).trans hM_100
            have hM_114 : M_108 (μ 2) = cI ca 110 sp := (fr_110 (μ 2) (hμ.ne (i := 2) (j := 1) (by decide) (by decide) (by decide))).trans hM_101
            have hM_115 : M_108 (μ 4) = cI ca 660 be := (fr_110 (μ 4) (hμ.ne (i := 4) (j := 1) (by decide) (by decide) (by decide))).trans hM_102
            have hM_116 : M_108 (μ 5) = cI ca 220 sa := (fr_110 (μ 5) (hμ.ne (i := 5) (j := 1) (by decide) (by decide) (by decide))).trans hM_103
            have hM_117 : M_108 (μ 6) = cZ ca 2 iz := (fr_110 (μ 6) (hμ.ne (i := 6) (j := 1) (by decide) (by decide) (by decide))).trans hM_104
            have hM_118 : M_108 (μ 7) = cI ca 33 rd := (fr_110 (μ 7) (hμ.ne (i := 7) (j := 1) (by decide) (by decide) (by decide))).trans hM_105
            have hM_119 : M_108 (μ 8) = cC ca 60 pa := (fr_110 (μ 8) (hμ.ne (i := 8) (j := 1) (by decide) (by decide) (by decide))).trans hM_106
            have hM_120 : M_108 (μ 3) = cI ca 110 g := (fr_110 (μ 3) (hμ.ne (i := 3) (j := 1) (by decide) (by decide) (by decide))).trans hM_107
            refine g_aload_n X 0 rfl dX6_clashes_67 rfl ?_
            refine g_callV X (ct_X6_beginsAnew l μ q g_111) (As := []) (rest := []) cl_X6 rfl ca_X6_beginsAnew rfl wm_X6_82 wi_X6_beginsAnew ws_X6_beginsAnew wc_X6_beginsAnew w0_X6 ⟨by decide, by decide⟩ (hμ.mem 0 (by decide)) hM_113 (by decide) ⟨by decide, by decide⟩ rfl dX6_clashes_68 rfl ⟨rfl, hμ, hM_113, hM_109, by have e := ok.2.2; rw [clG, if_pos (by omega), if_pos (by omega)] at e; rw [hg_112, e]; decide, by have e := ok.2.2; rw [clG, if_pos (by omega), if_pos (by omega)] at e; rw [hg_112, e]; decide⟩ (fun r1 L1 M_121 hq => ?_)
            obtain ⟨rfl, rfl, hM_122, fr_123⟩ := hq
            have hM_124 : M_121 (μ 0) = .inr (6, [.ref (μ 1), .ref (μ 2), .ref (μ 3), .ref (μ 4), .ref (μ 5), .ref (μ 6), .ref (μ 7), .ref (μ 8), .int (iI (q 0)), .int (iI (q 1)), .int (iI (q 2)), .int (iI (q 3))]) := (fr_123 (μ 0) (hμ.ne (i := 0) (j := 1) (by decide) (by decide) (by decide))).trans hM_113
            have hM_125 : M_121 (μ 2) = cI ca 110 sp := (fr_123 (μ 2) (hμ.ne (i := 2) (j := 1) (by decide) (by decide) (by decide))).trans hM_114
            have hM_126 : M_121 (μ 4) = cI ca 660 be := (fr_123 (μ 4) (hμ.ne (i := 4) (j := 1) (by decide) (by decide) (by decide))).trans hM_115
            have hM_127 : M_121 (μ 5) = cI ca 220 sa := (fr_123 (μ 5) (hμ.ne (i := 5) (j := 1) (by decide) (by decide) (by decide))).trans hM_116
            have hM_128 : M_121 (μ 6) = cZ ca 2 iz := (fr_123 (μ 6) (hμ.ne (i := 6) (j := 1) (by decide) (by decide) (by decide))).trans hM_117
            have hM_129 : M_121 (μ 7) = cI ca 33 rd := (fr_123 (μ 7) (hμ.ne (i := 7) (j := 1) (by decide) (by decide) (by decide))).trans hM_118
            have hM_130 : M_121 (μ 8) = cC ca 60 pa := (fr_123 (μ 8) (hμ.ne (i := 8) (j := 1) (by decide) (by decide) (by decide))).trans hM_119
            have hM_131 : M_121 (μ 3) = cI ca 110 g := (fr_123 (μ 3) (hμ.ne (i := 3) (j := 1) (by decide) (by decide) (by decide))).trans hM_120
            refine g_st (st' := []) rfl ?_
            refine g_aload_n X 0 rfl dX6_clashes_71 rfl ?_
            refine g_callV X (ct_X6_runsOut l μ q (bgaG g_111)) (As := []) (rest := []) cl_X6 rfl ca_X6_runsOut rfl wm_X6_141 wi_X6_runsOut ws_X6_runsOut wc_X6_runsOut w0_X6 ⟨by decide, by decide⟩ (hμ.mem 0 (by decide)) hM_124 (by decide) ⟨by decide, by decide⟩ rfl dX6_clashes_72 rfl ⟨rfl, hμ, hM_124, hM_122, by have e := okI; rw [clG, if_pos (by omega), if_pos (by omega)] at e; rw [hg_112]; exact e, by have e := ok4; rw [clG, if_pos (by omega), if_pos (by omega)] at e; rw [hg_112, e]; decide⟩ (fun r1 L1 M_132 hq => ?_)
            obtain ⟨rfl, rfl, hM_133, fr_134⟩ := hq
            have hM_135 : M_132 (μ 0) = .inr (6, [.ref (μ 1), .ref (μ 2), .ref (μ 3), .ref (μ 4), .ref (μ 5), .ref (μ 6), .ref (μ 7), .ref (μ 8), .int (iI (q 0)), .int (iI (q 1)), .int (iI (q 2)), .int (iI (q 3))]) := (fr_134 (μ 0) (hμ.ne (i := 0) (j := 1) (by decide) (by decide) (by decide))).trans hM_124
            have hM_136 : M_132 (μ 2) = cI ca 110 sp := (fr_134 (μ 2) (hμ.ne (i := 2) (j := 1) (by decide) (by decide) (by decide))).trans hM_125
            have hM_137 : M_132 (μ 4) = cI ca 660 be := (fr_134 (μ 4) (hμ.ne (i := 4) (j := 1) (by decide) (by decide) (by decide))).trans hM_126
            have hM_138 : M_132 (μ 5) = cI ca 220 sa := (fr_134 (μ 5) (hμ.ne (i := 5) (j := 1) (by decide) (by decide) (by decide))).trans hM_127
            have hM_139 : M_132 (μ 6) = cZ ca 2 iz := (fr_134 (μ 6) (hμ.ne (i := 6) (j := 1) (by decide) (by decide) (by decide))).trans hM_128
            have hM_140 : M_132 (μ 7) = cI ca 33 rd := (fr_134 (μ 7) (hμ.ne (i := 7) (j := 1) (by decide) (by decide) (by decide))).trans hM_129
            have hM_141 : M_132 (μ 8) = cC ca 60 pa := (fr_134 (μ 8) (hμ.ne (i := 8) (j := 1) (by decide) (by decide) (by decide))).trans hM_130
            have hM_142 : M_132 (μ 3) = cI ca 110 g := (fr_134 (μ 3) (hμ.ne (i := 3) (j := 1) (by decide) (by decide) (by decide))).trans hM_131
            refine g_st (st' := [.int (iI (roC 20000 (bgaG g_111)))]) rfl ?_
            refine g_istore_n X (lv' := [(3, .int (iI (roC 20000 (bgaG g_111)))), (0, .ref (μ 0)), (1, .int (iI a)), (2, .int (iI b0))]) (by decide) rfl dX6_clashes_75 rfl ?_
            refine g_aload_n X 1 rfl dX6_clashes_76 rfl ?_
            refine g_bipush X (z := 9) (by decide +kernel) dX6_clashes_77 rfl ?_
            refine g_callV X (ct_X6_ofStreams l μ q (roS 20000 (bgaG g_111)) 9) (As := [.int (iI 9)]) (rest := []) cl_X6 rfl ca_X6_ofStreams rfl wm_X6_132 wi_X6_ofStreams ws_X6_ofStreams wc_X6_ofStreams w0_X6 ⟨by decide, by decide⟩ (hμ.mem 0 (by decide)) hM_135 (by decide) ⟨by decide, by decide⟩ rfl dX6_clashes_79 rfl ⟨rfl, hμ, hM_135, hM_133, ⟨by decide, by decide⟩, by have e := okI; rw [clG, if_pos (by omega), if_pos (by omega)] at e; rw [hg_112]; have e2 := ro_inv 20000 e (by have e3 := ok4; rw [clG, if_pos (by omega), if_pos (by omega)] at e3; omega); have e4 := e2.1.1.2.2.2.2.2; omega, by have e := okI; rw [clG, if_pos (by omega), if_pos (by omega)] at e; rw [hg_112]; have e2 := ro_inv 20000 e (by have e3 := ok4; rw [clG, if_pos (by omega), if_pos (by omega)] at e3; omega); have e4 := e2.1.1.2.2.2.2.2; omega⟩ (fun r1 L1 M1 hq => ?_)
            obtain ⟨rfl, rfl, rfl⟩ := hq
            refine g_st (st' := [.int (iI (ofG (roS 20000 (bgaG g_111)) 9))]) rfl ?_
            refine g_istore X (lv' := [(4, .int (iI (ofG (roS 20000 (bgaG g_111)) 9))), (3, .int (iI (roC 20000 (bgaG g_111)))), (0, .ref (μ 0)), (1, .int (iI a)), (2, .int (iI b0))]) (by decide) rfl dX6_clashes_82 rfl ?_
            refine g_aload_n X 2 rfl dX6_clashes_84 rfl ?_
            refine g_callV X (ct_X6_putBack l μ q (roS 20000 (bgaG g_111)) g) (As := []) (rest := []) cl_X6 rfl ca_X6_putBack rfl wm_X6_144 wi_X6_putBack ws_X6_putBack wc_X6_putBack w0_X6 ⟨by decide, by decide⟩ (hμ.mem 0 (by decide)) hM_135 (by decide) ⟨by decide, by decide⟩ rfl dX6_clashes_85 rfl ⟨rfl, hμ, hM_135, hM_133, hM_142⟩ (fun r1 L1 M_143 hq => ?_)
            obtain ⟨rfl, rfl, hM_144, fr_145⟩ := hq
            have hM_146 : M_143 (μ 0) = .inr (6, [.ref (μ 1), .ref (μ 2), .ref (μ 3), .ref (μ 4), .ref (μ 5), .ref (μ 6), .ref (μ 7), .ref (μ 8), .int (iI (q 0)), .int (iI (q 1)), .int (iI (q 2)), .int (iI (q 3))]) := (fr_145 (μ 0) (hμ.ne (i := 0) (j := 1) (by decide) (by decide) (by decide))).trans hM_135
            have hM_147 : M_143 (μ 2) = cI ca 110 sp := (fr_145 (μ 2) (hμ.ne (i := 2) (j := 1) (by decide) (by decide) (by decide))).trans hM_136
            have hM_148 : M_143 (μ 4) = cI ca 660 be := (fr_145 (μ 4) (hμ.ne (i := 4) (j := 1) (by decide) (by decide) (by decide))).trans hM_137
            have hM_149 : M_143 (μ 5) = cI ca 220 sa := (fr_145 (μ 5) (hμ.ne (i := 5) (j := 1) (by decide) (by decide) (by decide))).trans hM_138
            have hM_150 : M_143 (μ 6) = cZ ca 2 iz := (fr_145 (μ 6) (hμ.ne (i := 6) (j := 1) (by decide) (by decide) (by decide))).trans hM_139
            have hM_151 : M_143 (μ 7) = cI ca 33 rd := (fr_145 (μ 7) (hμ.ne (i := 7) (j := 1) (by decide) (by decide) (by decide))).trans hM_140
            have hM_152 : M_143 (μ 8) = cC ca 60 pa := (fr_145 (μ 8) (hμ.ne (i := 8) (j := 1) (by decide) (by decide) (by decide))).trans hM_141
            have hM_153 : M_143 (μ 3) = cI ca 110 g := (fr_145 (μ 3) (hμ.ne (i := 3) (j := 1) (by decide) (by decide) (by decide))).trans hM_142
            refine g_st (st' := []) rfl ?_
            refine g_iload X 0 rfl dX6_clashes_88 rfl ?_
            subst hg_112
            exact g_iret X hret ⟨Nat.le_of_ble_eq_true rfl, Nat.le_of_ble_eq_true rfl⟩ dX6_clashes_90 ⟨by rw [anClash, if_pos ⟨h_1, h_2⟩, if_neg (by omega), clC, clG]; simp only []; rw [if_pos (show  a < b0 by omega), if_pos (show  a < b0 by omega)], rfl, ⟨q, _, _, _, rfl, rfl, hM_146, hM_144, hM_147, hM_153, hM_148, hM_149, hM_150, hM_151, hM_152⟩, (fun b hb => ((fr_145 b (hb 1 (by decide))).trans ((fr_134 b (hb 1 (by decide))).trans ((fr_123 b (hb 1 (by decide))).trans ((fr_110 b (hb 1 (by decide))).trans ((fr_99 b (hb 1 (by decide))).trans ((fr_87 b (hb 1 (by decide))).trans (fr_6 b (hb 3 (by decide))))))))))⟩
      · refine g_bipush X (z := -2) (by decide +kernel) dX6_clashes_23 rfl ?_
        exact g_iret X hret ⟨Nat.le_of_ble_eq_true rfl, Nat.le_of_ble_eq_true rfl⟩ dX6_clashes_25 ⟨by rw [anClash, if_pos ⟨h_1, h_2⟩, if_pos (by omega)], rfl, ⟨q, _, _, _, rfl, rfl, hMo, hMs, hM2, hM3, hM4, hM5, hM6, hM7, hM8⟩, (fun b hb => rfl)⟩
    · refine g_iconst X (z := -1) dX6_clashes_16 rfl ?_
      exact g_iret X hret ⟨Nat.le_of_ble_eq_true rfl, Nat.le_of_ble_eq_true rfl⟩ dX6_clashes_17 ⟨by rw [anClash, if_neg (fun q => h_2 q.2)], rfl, ⟨q, _, _, _, rfl, rfl, hMo, hMs, hM2, hM3, hM4, hM5, hM6, hM7, hM8⟩, (fun b hb => rfl)⟩
set_option maxRecDepth 100000 in
set_option maxHeartbeats 4000000 in
theorem ct_X6_busy (l : Launch) (μ : Nat → Nat) (q g : Int → Int) (b0 : Int) : Ct l yX6_busy cX6_busy 3 (some .int) 1 0 0 (fun ca av L M => av = [.ref (μ 0), .int (iI b0)] ∧ MuOk μ L ∧ M (μ 0) = oMd μ q ∧ M (μ 1) = cI ca 110 g ∧ 0 ≤ b0 ∧ b0 < 16 ∧ Inv g) (fun ca av L M r L1 M1 => r = some (.int (iI (bsyG g b0))) ∧ L = L1 ∧ M = M1) := by
  refine Ct_of (own := RX6) (by decide) rfl (by rintro _ _ _ _ ⟨rfl, _⟩; exact Nat.le_of_ble_eq_true rfl) ?_
  rintro p e s m args below meth c D ca A av L M ⟨rfl, hμ, hMo, hMs, h0, h1, hI⟩ X hret hname
  refine g_lv (lv' := [(0, .ref (μ 0)), (1, .int (iI b0))]) [0, 1] rfl ?_
  have hb := hI.2.1 b0 h0 h1
  obtain ⟨⟨i00, i01⟩, ⟨i10, i11⟩, ⟨i20, i21⟩, ⟨i30, i31⟩, ⟨i40, i41⟩, i50, i51⟩ := id hI.1
  refine g_aload_n X 0 rfl dX6_busy_0 rfl ?_
  refine g_get X cl_X6 0 (by decide) wf_X6_7 rfl (hμ.mem 0 (by decide)) hMo rfl dX6_busy_1 rfl ?_
  refine g_iload_n X 1 rfl dX6_busy_4 rfl ?_
  refine g_callS X (ct_X6_b l b0) (As := [.int (iI b0)]) (rest := [.ref (μ 1)]) rfl ca_X6_b rfl wm_X6_59 wt_X6_b wc_X6_b w0_X6 ⟨by decide, by decide⟩ (Nat.le_of_ble_eq_true rfl) ⟨by decide, by decide⟩ rfl dX6_busy_5 rfl ⟨rfl, trivial⟩ (fun r1 L1 M1 hq => ?_)
  obtain ⟨rfl, rfl, rfl⟩ := hq
  refine g_st (st' := [.int (iI (6 + 4 * b0)), .ref (μ 1)]) rfl ?_
  refine g_iconst X (z := 0) dX6_busy_8 rfl ?_
  refine g_iadd X dX6_busy_9 rfl ?_
  refine g_st (st' := [.int (iI (6 + 4 * b0)), .ref (μ 1)]) (by rw [Int.add_zero]) ?_
  refine g_iald X (hμ.mem 1 (by decide)) hMs ⟨by omega, by omega⟩ (by decide) dX6_busy_10 rfl ?_
  refine g_aload_n X 0 rfl dX6_busy_11 rfl ?_
  refine g_get X cl_X6 0 (by decide) wf_X6_7 rfl (hμ.mem 0 (by decide)) hMo rfl dX6_busy_12 rfl ?_
  refine g_iconst X (z := 4) dX6_busy_15 rfl ?_
  refine g_iald X (hμ.mem 1 (by decide)) hMs ⟨by decide, by decide⟩ (by decide) dX6_busy_16 rfl ?_
  refine g_isub X dX6_busy_17 rfl ?_
  refine g_istore_n X (lv' := [(2, .int (iI (g (6 + 4 * b0) - g 4))), (0, .ref (μ 0)), (1, .int (iI b0))]) (by decide) rfl dX6_busy_18 rfl ?_
  refine g_iload_n X 0 rfl dX6_busy_19 rfl ?_
  refine g_if_le X ⟨by omega, by omega⟩ (tgt := 27) dX6_busy_20 (by decide) rfl (fun h_1 => ?_) (fun h_1 => ?_)
  · refine g_iconst X (z := 0) dX6_busy_27 rfl ?_
    exact g_iret X hret ⟨Nat.le_of_ble_eq_true rfl, Nat.le_of_ble_eq_true rfl⟩ dX6_busy_28 ⟨by rw [bsyG, if_neg (by omega)], rfl, rfl⟩
  · refine g_iload_n X 0 rfl dX6_busy_23 rfl ?_
    refine g_goto X (n := 28) dX6_busy_24 (by decide) ?_
    exact g_iret X hret ⟨Nat.le_of_ble_eq_true rfl, Nat.le_of_ble_eq_true rfl⟩ dX6_busy_28 ⟨by rw [bsyG, if_pos (by omega)], rfl, rfl⟩
set_option maxRecDepth 100000 in
set_option maxHeartbeats 4000000 in
theorem ct_X6_busyBanks (l : Launch) (μ : Nat → Nat) (q g : Int → Int) : Ct l yX6_busyBanks cX6_busyBanks 3 (some .int) 2 0 0 (fun ca av L M => av = [.ref (μ 0)] ∧ MuOk μ L ∧ M (μ 0) = oMd μ q ∧ M (μ 1) = cI ca 110 g ∧ Inv g) (fun ca av L M r L1 M1 => r = some (.int (iI (bbG g))) ∧ L = L1 ∧ M = M1) := by
  refine Ct_of (own := RX6) (by decide) rfl (by rintro _ _ _ _ ⟨rfl, _⟩; exact Nat.le_of_ble_eq_true rfl) ?_
  rintro p e s m args below meth c D ca A av L M ⟨rfl, hμ, hMo, hMs, hI⟩ X hret hname
  refine g_lv (lv' := [(0, .ref (μ 0))]) [0] rfl ?_
  generalize hQ : MQ below _ args s _ _ A = Q
  obtain ⟨⟨i00, i01⟩, ⟨i10, i11⟩, ⟨i20, i21⟩, ⟨i30, i31⟩, ⟨i40, i41⟩, i50, i51⟩ := id hI.1
  have lp : ∀ (n : Nat) (k : Nat) (z y : Int) (hy : y = k) (hk : y ≤ g 0) (hz : z = bbS g k) (hm : g 0 - y < (n : Int)), G p l e (Rm 2 0 0) s m args below meth c D A 3 Q 0 0 L M 4 [(0, .ref (μ 0)), (1, .int (iI z)), (2, .int (iI y))] [] := by
    intro n
    induction n with
    | zero =>
      intro k z y hy hk hz hm
      exfalso; omega
    | succ n ih =>
      intro k z y hy hk hz hm
      have hbr : 0 ≤ y → y < 16 → 0 ≤ bsyG g y ∧ bsyG g y ≤ 12 := fun h0 h1 => by have := hI.2.1 y h0 h1; unfold bsyG; split <;> omega
      refine g_iload_n X 2 rfl dX6_busyBanks_4 rfl ?_
      refine g_aload_n X 0 rfl dX6_busyBanks_5 rfl ?_
      refine g_get X cl_X6 0 (by decide) wf_X6_7 rfl (hμ.mem 0 (by decide)) hMo rfl dX6_busyBanks_6 rfl ?_
      refine g_iconst X (z := 0) dX6_busyBanks_9 rfl ?_
      refine g_iald X (hμ.mem 1 (by decide)) hMs ⟨by decide, by decide⟩ (by decide) dX6_busyBanks_10 rfl ?_
      refine g_icmp_ge X ⟨by omega, by omega⟩ ⟨by omega, by omega⟩ (tgt := 36) dX6_busyBanks_11 (by decide) rfl (fun h_1 => ?_) (fun h_1 => ?_)
      · refine g_iload_n X 1 rfl dX6_busyBanks_36 rfl ?_
        subst hQ
        exact g_iret X hret ⟨Nat.le_of_ble_eq_true rfl, Nat.le_of_ble_eq_true rfl⟩ dX6_busyBanks_37 ⟨by rw [hz, bbG, show (g 0).toNat = k from by omega], rfl, rfl⟩
      · refine g_iload_n X 1 rfl dX6_busyBanks_14 rfl ?_
        refine g_aload_n X 0 rfl dX6_busyBanks_15 rfl ?_
        refine g_iload_n X 2 rfl dX6_busyBanks_16 rfl ?_
        refine g_callV X (ct_X6_busy l μ q g y) (As := [.int (iI y)]) (rest := [.int (iI z)]) cl_X6 rfl ca_X6_busy rfl wm_X6_126 wi_X6_busy ws_X6_busy wc_X6_busy w0_X6 ⟨by decide, by decide⟩ (hμ.mem 0 (by decide)) hMo (Nat.le_of_ble_eq_true rfl) ⟨by decide, by decide⟩ rfl dX6_busyBanks_17 rfl ⟨rfl, hμ, hMo, hMs, by omega, by omega, hI⟩ (fun r1 L1 M1 hq => ?_)
        obtain ⟨rfl, rfl, rfl⟩ := hq
        refine g_st (st' := [.int (iI (bsyG g y)), .int (iI z)]) rfl ?_
        have hbr2 := hbr (by omega) (by omega)
        refine g_if_le X ⟨by omega, by omega⟩ (tgt := 27) dX6_busyBanks_20 (by decide) rfl (fun h_2 => ?_) (fun h_2 => ?_)
        · refine g_iconst X (z := 0) dX6_busyBanks_27 rfl ?_
          refine g_iadd X dX6_busyBanks_28 rfl ?_
          refine g_st (st' := [.int (iI z)]) (by rw [Int.add_zero]) ?_
          refine g_istore_n X (lv' := [(1, .int (iI z)), (0, .ref (μ 0)), (2, .int (iI y))]) (by decide) rfl dX6_busyBanks_29 rfl ?_
          refine g_iinc X (lv' := [(2, .int (iI (y + 1))), (1, .int (iI z)), (0, .ref (μ 0))]) 2 rfl (by decide) rfl dX6_busyBanks_30 rfl ?_
          refine g_goto X (n := 4) dX6_busyBanks_33 (by decide) ?_
          refine g_lv (lv' := [(0, .ref (μ 0)), (1, .int (iI z)), (2, .int (iI (y + 1)))]) [2, 1, 0] rfl ?_
          exact ih (k + 1) _ _ (by omega) (by omega) (by simp only [bbS]; rw [← hy, ← hz, if_neg (by omega)]; omega) (by omega)
        · refine g_iconst X (z := 1) dX6_busyBanks_23 rfl ?_
          refine g_goto X (n := 28) dX6_busyBanks_24 (by decide) ?_
          refine g_iadd X dX6_busyBanks_28 rfl ?_
          refine g_istore_n X (lv' := [(1, .int (iI (z + 1))), (0, .ref (μ 0)), (2, .int (iI y))]) (by decide) rfl dX6_busyBanks_29 rfl ?_
          refine g_iinc X (lv' := [(2, .int (iI (y + 1))), (1, .int (iI (z + 1))), (0, .ref (μ 0))]) 2 rfl (by decide) rfl dX6_busyBanks_30 rfl ?_
          refine g_goto X (n := 4) dX6_busyBanks_33 (by decide) ?_
          refine g_lv (lv' := [(0, .ref (μ 0)), (1, .int (iI (z + 1))), (2, .int (iI (y + 1)))]) [2, 1, 0] rfl ?_
          exact ih (k + 1) _ _ (by omega) (by omega) (by simp only [bbS]; rw [← hy, ← hz, if_pos (by omega)]) (by omega)
  refine g_iconst X (z := 0) dX6_busyBanks_0 rfl ?_
  refine g_istore_n X (lv' := [(1, .int (iI 0)), (0, .ref (μ 0))]) (by decide) rfl dX6_busyBanks_1 rfl ?_
  refine g_iconst X (z := 0) dX6_busyBanks_2 rfl ?_
  refine g_istore_n X (lv' := [(2, .int (iI 0)), (1, .int (iI 0)), (0, .ref (μ 0))]) (by decide) rfl dX6_busyBanks_3 rfl ?_
  refine g_lv (lv' := [(0, .ref (μ 0)), (1, .int (iI 0)), (2, .int (iI 0))]) [2, 1, 0] rfl ?_
  exact lp 20 0 _ _ rfl (by omega) rfl (by omega)
set_option maxRecDepth 100000 in
set_option maxHeartbeats 4000000 in
theorem ct_X6_wordsIn (l : Launch) (μ : Nat → Nat) (q g : Int → Int) (b0 : Int) : Ct l yX6_wordsIn cX6_wordsIn 6 (some .int) 3 0 0 (fun ca av L M => av = [.ref (μ 0), .int (iI b0)] ∧ MuOk μ L ∧ M (μ 0) = oMd μ q ∧ M (μ 1) = cI ca 110 g ∧ Inv g ∧ R32 b0) (fun ca av L M r L1 M1 => r = some (.int (iI (wiG g b0))) ∧ L = L1 ∧ M = M1) := by
  refine Ct_of (own := RX6) (by decide) rfl (by rintro _ _ _ _ ⟨rfl, _⟩; exact Nat.le_of_ble_eq_true rfl) ?_
  rintro p e s m args below meth c D ca A av L M ⟨rfl, hμ, hMo, hMs, hI, hb0⟩ X hret hname
  refine g_lv (lv' := [(0, .ref (μ 0)), (1, .int (iI b0))]) [0, 1] rfl ?_
  generalize hQ : MQ below _ args s _ _ A = Q
  obtain ⟨⟨i00, i01⟩, ⟨i10, i11⟩, ⟨i20, i21⟩, ⟨i30, i31⟩, ⟨i40, i41⟩, i50, i51⟩ := id hI.1
  have lpI : ∀ (z0 y : Int) (hy0 : 0 ≤ y) (hy5 : y < g 5) (out : ∀ z : Int, z = z0 + wiR g y b0 (g (70 + 10 * y + 3)).toNat → G p l e (Rm 3 0 0) s m args below meth c D A 6 Q 0 0 L M 4 [(0, .ref (μ 0)), (1, .int (iI b0)), (2, .int (iI z)), (3, .int (iI (y + 1)))] []) (x z : Int), x = 0 → z = z0 → G p l e (Rm 3 0 0) s m args below meth c D A 6 Q 0 0 L M 23 [(0, .ref (μ 0)), (1, .int (iI b0)), (2, .int (iI z)), (3, .int (iI y)), (4, .int (iI (70 + 10 * y))), (5, .int (iI x))] [] := by
    intro z0 y hy0 hy5 out x z hx0 hz0
    obtain ⟨⟨r00, r01⟩, ⟨r10, r11⟩, ⟨r20, r21⟩, ⟨r30, r31⟩, ⟨r40, r41⟩, -⟩ := hI.2.2 y hy0 hy5
    have lpi : ∀ (n : Nat) (j : Nat) (z x : Int) (hx : x = j) (hxl : x ≤ g (70 + 10 * y + 3)) (hz : z = z0 + wiR g y b0 j) (hm : g (70 + 10 * y + 3) - x < (n : Int)), G p l e (Rm 3 0 0) s m args below meth c D A 6 Q 0 0 L M 23 [(0, .ref (μ 0)), (1, .int (iI b0)), (2, .int (iI z)), (3, .int (iI y)), (4, .int (iI (70 + 10 * y))), (5, .int (iI x))] [] := by
      intro n
      induction n with
      | zero =>
        intro j z x hx hxl hz hm
        exfalso; omega
      | succ n ih =>
        intro j z x hx hxl hz hm
        refine g_iload X 5 rfl dX6_wordsIn_23 rfl ?_
        refine g_aload_n X 0 rfl dX6_wordsIn_25 rfl ?_
        refine g_get X cl_X6 0 (by decide) wf_X6_7 rfl (hμ.mem 0 (by decide)) hMo rfl dX6_wordsIn_26 rfl ?_
        refine g_iload X 4 rfl dX6_wordsIn_29 rfl ?_
        refine g_iconst X (z := 3) dX6_wordsIn_31 rfl ?_
        refine g_iadd X dX6_wordsIn_32 rfl ?_
        refine g_iald X (hμ.mem 1 (by decide)) hMs ⟨by omega, by omega⟩ (by decide) dX6_wordsIn_33 rfl ?_
        refine g_icmp_ge X ⟨by omega, by omega⟩ ⟨by omega, by omega⟩ (tgt := 85) dX6_wordsIn_34 (by decide) rfl (fun h_1 => ?_) (fun h_1 => ?_)
        · refine g_iinc X (lv' := [(3, .int (iI (y + 1))), (0, .ref (μ 0)), (1, .int (iI b0)), (2, .int (iI z)), (4, .int (iI (70 + 10 * y))), (5, .int (iI x))]) 3 rfl (by decide) rfl dX6_wordsIn_85 rfl ?_
          refine g_goto X (n := 4) dX6_wordsIn_88 (by decide) ?_
          refine g_lv (lv' := [(0, .ref (μ 0)), (1, .int (iI b0)), (2, .int (iI z)), (3, .int (iI (y + 1)))]) [1, 2, 3, 0] rfl ?_
          exact out _ (by rw [hz, show (g (70 + 10 * y + 3)).toNat = j from by omega])
        · refine g_iload_n X 2 rfl dX6_wordsIn_37 rfl ?_
          refine g_aload_n X 0 rfl dX6_wordsIn_38 rfl ?_
          refine g_aload_n X 0 rfl dX6_wordsIn_39 rfl ?_
          refine g_get X cl_X6 0 (by decide) wf_X6_7 rfl (hμ.mem 0 (by decide)) hMo rfl dX6_wordsIn_40 rfl ?_
          refine g_iload X 4 rfl dX6_wordsIn_43 rfl ?_
          refine g_iconst X (z := 4) dX6_wordsIn_45 rfl ?_
          refine g_iadd X dX6_wordsIn_46 rfl ?_
          refine g_iald X (hμ.mem 1 (by decide)) hMs ⟨by omega, by omega⟩ (by decide) dX6_wordsIn_47 rfl ?_
          refine g_iload X 5 rfl dX6_wordsIn_48 rfl ?_
          refine g_aload_n X 0 rfl dX6_wordsIn_50 rfl ?_
          refine g_get X cl_X6 0 (by decide) wf_X6_7 rfl (hμ.mem 0 (by decide)) hMo rfl dX6_wordsIn_51 rfl ?_
          refine g_iload X 4 rfl dX6_wordsIn_54 rfl ?_
          refine g_iconst X (z := 1) dX6_wordsIn_56 rfl ?_
          refine g_iadd X dX6_wordsIn_57 rfl ?_
          refine g_iald X (hμ.mem 1 (by decide)) hMs ⟨by omega, by omega⟩ (by decide) dX6_wordsIn_58 rfl ?_
          have p0 := Int.mul_nonneg (show 0 ≤ x by omega) r10
          have p1 : x * g (70 + 10 * y + 1) ≤ 200 * 1023 := Int.mul_le_mul (by omega) (by omega) r10 (by decide)
          refine g_imul X dX6_wordsIn_59 rfl ?_
          refine g_iadd X dX6_wordsIn_60 rfl ?_
          refine g_sipush X (z := 4096) (by decide +kernel) dX6_wordsIn_61 rfl ?_
          refine g_irem X ⟨⟨by omega, by omega⟩, by omega, by omega⟩ dX6_wordsIn_64 rfl ?_
          have q0 := Int.emod_nonneg (g (70 + 10 * y + 4) + x * g (70 + 10 * y + 1)) (by decide : (4096 : Int) ≠ 0)
          have q1 := Int.emod_lt_of_pos (g (70 + 10 * y + 4) + x * g (70 + 10 * y + 1)) (by decide : (0 : Int) < 4096)
          have hbk := bkG_rng hI.1 ((g (70 + 10 * y + 4) + x * g (70 + 10 * y + 1)) % 4096)
          refine g_callV X (ct_X6_bankAt l μ q g ((g ((70 + 10 * y) + 4) + (x * g ((70 + 10 * y) + 1))) % 4096)) (As := [.int (iI ((g ((70 + 10 * y) + 4) + (x * g ((70 + 10 * y) + 1))) % 4096))]) (rest := [.int (iI z)]) cl_X6 rfl ca_X6_bankAt rfl wm_X6_56 wi_X6_bankAt ws_X6_bankAt wc_X6_bankAt w0_X6 ⟨by decide, by decide⟩ (hμ.mem 0 (by decide)) hMo (Nat.le_of_ble_eq_true rfl) ⟨by decide, by decide⟩ rfl dX6_wordsIn_65 rfl ⟨rfl, hμ, hMo, hMs, hI.1, by omega, by omega⟩ (fun r1 L1 M1 hq => ?_)
          obtain ⟨rfl, rfl, rfl⟩ := hq
          refine g_st (st' := [.int (iI (bkG g ((g ((70 + 10 * y) + 4) + (x * g ((70 + 10 * y) + 1))) % 4096))), .int (iI z)]) rfl ?_
          refine g_iload_n X 1 rfl dX6_wordsIn_68 rfl ?_
          refine g_icmp_ne X ⟨by omega, by omega⟩ hb0 (tgt := 76) dX6_wordsIn_69 (by decide) rfl (fun h_2 => ?_) (fun h_2 => ?_)
          · refine g_iconst X (z := 0) dX6_wordsIn_76 rfl ?_
            refine g_iadd X dX6_wordsIn_77 rfl ?_
            refine g_st (st' := [.int (iI z)]) (by rw [Int.add_zero]) ?_
            refine g_istore_n X (lv' := [(2, .int (iI z)), (0, .ref (μ 0)), (1, .int (iI b0)), (3, .int (iI y)), (4, .int (iI (70 + 10 * y))), (5, .int (iI x))]) (by decide) rfl dX6_wordsIn_78 rfl ?_
            refine g_iinc X (lv' := [(5, .int (iI (x + 1))), (2, .int (iI z)), (0, .ref (μ 0)), (1, .int (iI b0)), (3, .int (iI y)), (4, .int (iI (70 + 10 * y)))]) 5 rfl (by decide) rfl dX6_wordsIn_79 rfl ?_
            refine g_goto X (n := 23) dX6_wordsIn_82 (by decide) ?_
            refine g_lv (lv' := [(0, .ref (μ 0)), (1, .int (iI b0)), (2, .int (iI z)), (3, .int (iI y)), (4, .int (iI (70 + 10 * y))), (5, .int (iI (x + 1)))]) [2, 3, 1, 4, 5, 0] rfl ?_
            exact ih (j + 1) _ _ (by omega) (by omega) (by simp only [wiR]; rw [← hx, if_neg (by omega), hz]; omega) (by omega)
          · refine g_iconst X (z := 1) dX6_wordsIn_72 rfl ?_
            refine g_goto X (n := 77) dX6_wordsIn_73 (by decide) ?_
            refine g_iadd X dX6_wordsIn_77 rfl ?_
            refine g_istore_n X (lv' := [(2, .int (iI (z + 1))), (0, .ref (μ 0)), (1, .int (iI b0)), (3, .int (iI y)), (4, .int (iI (70 + 10 * y))), (5, .int (iI x))]) (by decide) rfl dX6_wordsIn_78 rfl ?_
            refine g_iinc X (lv' := [(5, .int (iI (x + 1))), (2, .int (iI (z + 1))), (0, .ref (μ 0)), (1, .int (iI b0)), (3, .int (iI y)), (4, .int (iI (70 + 10 * y)))]) 5 rfl (by decide) rfl dX6_wordsIn_79 rfl ?_
            refine g_goto X (n := 23) dX6_wordsIn_82 (by decide) ?_
            refine g_lv (lv' := [(0, .ref (μ 0)), (1, .int (iI b0)), (2, .int (iI (z + 1))), (3, .int (iI y)), (4, .int (iI (70 + 10 * y))), (5, .int (iI (x + 1)))]) [2, 3, 1, 4, 5, 0] rfl ?_
            exact ih (j + 1) _ _ (by omega) (by omega) (by simp only [wiR]; rw [← hx, if_pos (by omega), hz]; omega) (by omega)
    exact lpi 300 0 _ _ (by omega) (by omega) (by rw [hz0]; simp only [wiR]; omega) (by omega)
  have lp : ∀ (n : Nat) (k : Nat) (z y : Int) (hy : y = k) (hk : y ≤ g 5) (hz : z = wiS g b0 k) (hm : g 5 - y < (n : Int)), G p l e (Rm 3 0 0) s m args below meth c D A 6 Q 0 0 L M 4 [(0, .ref (μ 0)), (1, .int (iI b0)), (2, .int (iI z)), (3, .int (iI y))] [] := by
    intro n
    induction n with
    | zero =>
      intro k z y hy hk hz hm
      exfalso; omega
    | succ n ih =>
      intro k z y hy hk hz hm
      refine g_iload_n X 3 rfl dX6_wordsIn_4 rfl ?_
      refine g_aload_n X 0 rfl dX6_wordsIn_5 rfl ?_
      refine g_get X cl_X6 0 (by decide) wf_X6_7 rfl (hμ.mem 0 (by decide)) hMo rfl dX6_wordsIn_6 rfl ?_
      refine g_iconst X (z := 5) dX6_wordsIn_9 rfl ?_
      refine g_iald X (hμ.mem 1 (by decide)) hMs ⟨by decide, by decide⟩ (by decide) dX6_wordsIn_10 rfl ?_
      refine g_icmp_ge X ⟨by omega, by omega⟩ ⟨by omega, by omega⟩ (tgt := 91) dX6_wordsIn_11 (by decide) rfl (fun h_3 => ?_) (fun h_3 => ?_)
      · refine g_iload_n X 2 rfl dX6_wordsIn_91 rfl ?_
        subst hQ
        exact g_iret X hret ⟨Nat.le_of_ble_eq_true rfl, Nat.le_of_ble_eq_true rfl⟩ dX6_wordsIn_92 ⟨by rw [hz, wiG, show (g 5).toNat = k from by omega], rfl, rfl⟩
      · refine g_iload_n X 3 rfl dX6_wordsIn_14 rfl ?_
        refine g_callS X (ct_X6_m l y) (As := [.int (iI y)]) (rest := []) rfl ca_X6_m rfl wm_X6_52 wt_X6_m wc_X6_m w0_X6 ⟨by decide, by decide⟩ (by decide) ⟨by decide, by decide⟩ rfl dX6_wordsIn_15 rfl ⟨rfl, trivial⟩ (fun r1 L1 M1 hq => ?_)
        obtain ⟨rfl, rfl, rfl⟩ := hq
        refine g_st (st' := [.int (iI (70 + 10 * y))]) rfl ?_
        refine g_istore X (lv' := [(4, .int (iI (70 + 10 * y))), (0, .ref (μ 0)), (1, .int (iI b0)), (2, .int (iI z)), (3, .int (iI y))]) (by decide) rfl dX6_wordsIn_18 rfl ?_
        refine g_iconst X (z := 0) dX6_wordsIn_20 rfl ?_
        refine g_istore X (lv' := [(5, .int (iI 0)), (4, .int (iI (70 + 10 * y))), (0, .ref (μ 0)), (1, .int (iI b0)), (2, .int (iI z)), (3, .int (iI y))]) (by decide) rfl dX6_wordsIn_21 rfl ?_
        have rw3 := hI.2.2 y (by omega) (by omega)
        refine g_lv (lv' := [(0, .ref (μ 0)), (1, .int (iI b0)), (2, .int (iI z)), (3, .int (iI y)), (4, .int (iI (70 + 10 * y))), (5, .int (iI 0))]) [2, 3, 4, 5, 1, 0] rfl ?_
        exact lpI z y (by omega) (by omega) (fun z2 hz2 => ih (k + 1) _ _ (by omega) (by omega) (by simp only [wiS]; rw [hz2, hz, hy]) (by omega)) _ _ rfl rfl
  refine g_iconst X (z := 0) dX6_wordsIn_0 rfl ?_
  refine g_istore_n X (lv' := [(2, .int (iI 0)), (0, .ref (μ 0)), (1, .int (iI b0))]) (by decide) rfl dX6_wordsIn_1 rfl ?_
  refine g_iconst X (z := 0) dX6_wordsIn_2 rfl ?_
  refine g_istore_n X (lv' := [(3, .int (iI 0)), (2, .int (iI 0)), (0, .ref (μ 0)), (1, .int (iI b0))]) (by decide) rfl dX6_wordsIn_3 rfl ?_
  refine g_lv (lv' := [(0, .ref (μ 0)), (1, .int (iI b0)), (2, .int (iI 0)), (3, .int (iI 0))]) [2, 3, 1, 0] rfl ?_
  exact lp 9 0 _ _ rfl (by omega) rfl (by omega)
