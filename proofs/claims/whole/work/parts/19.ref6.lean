/-! the reference: drops, runs, what-ifs -/
set_option maxRecDepth 100000 in
set_option maxHeartbeats 4000000 in
theorem ct_X6_drop (l : Launch) (μ : Nat → Nat) (q g : Int → Int) (sp tr be sa iz rd pa : Int → Int) (i : Int) : Ct l yX6_drop cX6_drop 5 (some .int) 2 0 0 (fun ca av L M => av = [.ref (μ 0), .int (iI i)] ∧ MuOk μ L ∧ M (μ 0) = oMd μ q ∧ M (μ 1) = cI ca 110 g ∧ M (μ 2) = cI ca 110 sp ∧ M (μ 3) = cI ca 110 tr ∧ M (μ 4) = cI ca 660 be ∧ M (μ 5) = cI ca 220 sa ∧ M (μ 6) = cZ ca 2 iz ∧ M (μ 7) = cI ca 33 rd ∧ M (μ 8) = cC ca 60 pa ∧ Inv g ∧ (0 ≤ q 0 ∧ q 0 ≤ 60) ∧ (0 ≤ q 1 ∧ q 1 ≤ 6) ∧ R32 i) (fun ca av L M r L1 M1 => r = some (.int (iI (anDrop (g, be, sa, iz, pa, q 0, q 1) i))) ∧ L = L1 ∧ Md ca M1 μ (opDrop (g, be, sa, iz, pa, q 0, q 1) i) ∧ ∀ b, (∀ i, i < 9 → b ≠ μ i) → M1 b = M b) := by
  refine Ct_of (own := RX6) (by decide) rfl (by rintro _ _ _ _ ⟨rfl, _⟩; exact Nat.le_of_ble_eq_true rfl) ?_
  rintro p e s m args below meth c D ca A av L M ⟨rfl, hμ, hMo, hMs, hM2, hM3, hM4, hM5, hM6, hM7, hM8, hI, hq0, hq1, hi⟩ X hret hname
  refine g_lv (lv' := [(0, .ref (μ 0)), (1, .int (iI i))]) [0, 1] rfl ?_
  generalize hQ : MQ below _ args s _ _ A = Q
  obtain ⟨⟨i00, i01⟩, ⟨i10, i11⟩, ⟨i20, i21⟩, ⟨i30, i31⟩, ⟨i40, i41⟩, i50, i51⟩ := id hI.1
  have lp2 : ∀ (n : Nat) (v y : Int) (M1 : Mem) (f : Int → Int) (hin : isStr g i) (hv : v = g (70 + 10 * i + 3)) (hy0 : 0 ≤ y) (hy1 : y ≤ 16) (hf : f = own y i (shr (70 + 10 * i) (70 + 10 * (g 5 - 1)) g)) (n0 : M1 (μ 0) = .inr (6, [.ref (μ 1), .ref (μ 2), .ref (μ 3), .ref (μ 4), .ref (μ 5), .ref (μ 6), .ref (μ 7), .ref (μ 8), .int (iI (q 0)), .int (iI (q 1)), .int (iI (q 2)), .int (iI (q 3))])) (n1 : M1 (μ 1) = cI ca 110 f) (n2 : M1 (μ 2) = cI ca 110 g) (n3 : M1 (μ 3) = cI ca 110 tr) (n4 : M1 (μ 4) = cI ca 660 be) (n5 : M1 (μ 5) = cI ca 220 sa) (n6 : M1 (μ 6) = cZ ca 2 iz) (n7 : M1 (μ 7) = cI ca 33 rd) (n8 : M1 (μ 8) = cC ca 60 pa) (hfr : ∀ b, b ≠ μ 1 → b ≠ μ 2 → M1 b = M b) (hm : 16 - y < (n : Int)), G p l e (Rm 2 0 0) s m args below meth c D A 5 Q 0 0 L M1 69 [(0, .ref (μ 0)), (1, .int (iI i)), (2, .int (iI v)), (3, .int (iI y))] [] := by
    intro n
    induction n with
    | zero =>
      intro v y M1 f hin hv hy0 hy1 hf n0 n1 n2 n3 n4 n5 n6 n7 n8 hfr hm
      exfalso; omega
    | succ n ih =>
      intro v y M1 f hin hv hy0 hy1 hf n0 n1 n2 n3 n4 n5 n6 n7 n8 hfr hm
      have fo : y < 16 → f (6 + 4 * y + 1) = g (6 + 4 * y + 1) := fun h => by rw [hf, own_out _ (by omega), shr_out _ (by omega)]
      have f5 : f 5 = g 5 := by rw [hf, own_out _ (by omega), shr_out _ (by omega)]
      refine g_iload_n X 3 rfl dX6_drop_69 rfl ?_
      refine g_bipush X (z := 16) (by decide +kernel) dX6_drop_70 rfl ?_
      refine g_icmp_ge X ⟨by omega, by omega⟩ ⟨by decide, by decide⟩ (tgt := 130) dX6_drop_72 (by decide) rfl (fun h_1 => ?_) (fun h_1 => ?_)
      · refine g_aload_n X 0 rfl dX6_drop_130 rfl ?_
        refine g_get X cl_X6 0 (by decide) wf_X6_7 rfl (hμ.mem 0 (by decide)) n0 rfl dX6_drop_131 rfl ?_
        refine g_iconst X (z := 5) dX6_drop_134 rfl ?_
        refine g_dup2 X rfl rfl dX6_drop_135 rfl ?_
        refine g_iald X (hμ.mem 1 (by decide)) n1 ⟨by decide, by decide⟩ (by decide) dX6_drop_136 rfl ?_
        refine g_iconst X (z := 1) dX6_drop_137 rfl ?_
        refine g_isub X dX6_drop_138 rfl ?_
        refine g_iast X (hμ.mem 1 (by decide)) n1 ⟨by decide, by decide⟩ (by decide) dX6_drop_139 rfl (fun M_2 hM_3 fr_4 => ?_)
        obtain ⟨g_5, hg_6⟩ : ∃ x : Int → Int, x = up f 5 (f 5 - 1) := ⟨_, rfl⟩
        rw [← hg_6] at hM_3
        have hM_7 : M_2 (μ 0) = .inr (6, [.ref (μ 1), .ref (μ 2), .ref (μ 3), .ref (μ 4), .ref (μ 5), .ref (μ 6), .ref (μ 7), .ref (μ 8), .int (iI (q 0)), .int (iI (q 1)), .int (iI (q 2)), .int (iI (q 3))]) := (fr_4 (μ 0) (hμ.ne (i := 0) (j := 1) (by decide) (by decide) (by decide))).trans n0
        have hM_8 : M_2 (μ 2) = cI ca 110 g := (fr_4 (μ 2) (hμ.ne (i := 2) (j := 1) (by decide) (by decide) (by decide))).trans n2
        have hM_9 : M_2 (μ 3) = cI ca 110 tr := (fr_4 (μ 3) (hμ.ne (i := 3) (j := 1) (by decide) (by decide) (by decide))).trans n3
        have hM_10 : M_2 (μ 4) = cI ca 660 be := (fr_4 (μ 4) (hμ.ne (i := 4) (j := 1) (by decide) (by decide) (by decide))).trans n4
        have hM_11 : M_2 (μ 5) = cI ca 220 sa := (fr_4 (μ 5) (hμ.ne (i := 5) (j := 1) (by decide) (by decide) (by decide))).trans n5
        have hM_12 : M_2 (μ 6) = cZ ca 2 iz := (fr_4 (μ 6) (hμ.ne (i := 6) (j := 1) (by decide) (by decide) (by decide))).trans n6
        have hM_13 : M_2 (μ 7) = cI ca 33 rd := (fr_4 (μ 7) (hμ.ne (i := 7) (j := 1) (by decide) (by decide) (by decide))).trans n7
        have hM_14 : M_2 (μ 8) = cC ca 60 pa := (fr_4 (μ 8) (hμ.ne (i := 8) (j := 1) (by decide) (by decide) (by decide))).trans n8
        refine g_aload_n X 0 rfl dX6_drop_140 rfl ?_
        refine g_iload_n X 2 rfl dX6_drop_141 rfl ?_
        refine g_callV X (ct_X6_recorded l μ q g_5 g be v) (As := [.int (iI v)]) (rest := []) cl_X6 rfl ca_X6_recorded rfl wm_X6_85 wi_X6_recorded ws_X6_recorded wc_X6_recorded w0_X6 ⟨by decide, by decide⟩ (hμ.mem 0 (by decide)) hM_7 (by decide) ⟨by decide, by decide⟩ rfl dX6_drop_142 rfl ⟨rfl, hμ, hM_7, hM_3, hM_8, hM_10, hq1.1, hq1.2⟩ (fun r1 L1 M_15 hq => ?_)
        obtain ⟨rfl, rfl, hM_16, hM_17, fr_18⟩ := hq
        have hM_19 : M_15 (μ 2) = cI ca 110 g := (fr_18 _ (hμ.ne (i := 2) (j := 0) (by decide) (by decide) (by decide)) (hμ.ne (i := 2) (j := 4) (by decide) (by decide) (by decide))).trans hM_8
        have hM_20 : M_15 (μ 3) = cI ca 110 tr := (fr_18 _ (hμ.ne (i := 3) (j := 0) (by decide) (by decide) (by decide)) (hμ.ne (i := 3) (j := 4) (by decide) (by decide) (by decide))).trans hM_9
        have hM_21 : M_15 (μ 5) = cI ca 220 sa := (fr_18 _ (hμ.ne (i := 5) (j := 0) (by decide) (by decide) (by decide)) (hμ.ne (i := 5) (j := 4) (by decide) (by decide) (by decide))).trans hM_11
        have hM_22 : M_15 (μ 6) = cZ ca 2 iz := (fr_18 _ (hμ.ne (i := 6) (j := 0) (by decide) (by decide) (by decide)) (hμ.ne (i := 6) (j := 4) (by decide) (by decide) (by decide))).trans hM_12
        have hM_23 : M_15 (μ 7) = cI ca 33 rd := (fr_18 _ (hμ.ne (i := 7) (j := 0) (by decide) (by decide) (by decide)) (hμ.ne (i := 7) (j := 4) (by decide) (by decide) (by decide))).trans hM_13
        have hM_24 : M_15 (μ 8) = cC ca 60 pa := (fr_18 _ (hμ.ne (i := 8) (j := 0) (by decide) (by decide) (by decide)) (hμ.ne (i := 8) (j := 4) (by decide) (by decide) (by decide))).trans hM_14
        have hM_25 : M_15 (μ 1) = cI ca 110 g_5 := (fr_18 _ (hμ.ne (i := 1) (j := 0) (by decide) (by decide) (by decide)) (hμ.ne (i := 1) (j := 4) (by decide) (by decide) (by decide))).trans hM_3
        refine g_st (st' := [.int (iI v)]) rfl ?_
        subst hQ
        have hyy : y = 16 := by omega
        rw [hg_6, f5, hf, hyy] at hM_25
        exact g_iret X hret ⟨Nat.le_of_ble_eq_true rfl, Nat.le_of_ble_eq_true rfl⟩ dX6_drop_145 ⟨by rw [anDrop, if_pos hin, hv], rfl, by rw [opDrop, if_pos hin, dropG]; exact ⟨(up q 1 (recN (q 1))), _, _, _, rfl, rfl, hM_16, hM_25, hM_19, hM_20, hM_17, hM_21, hM_22, hM_23, hM_24⟩, (fun b hb => ((fr_18 b (hb 0 (by decide)) (hb 4 (by decide))).trans ((fr_4 b (hb 1 (by decide))).trans (hfr b (hb 1 (by decide)) (hb 2 (by decide))))))⟩
      · refine g_aload_n X 0 rfl dX6_drop_75 rfl ?_
        refine g_get X cl_X6 0 (by decide) wf_X6_7 rfl (hμ.mem 0 (by decide)) n0 rfl dX6_drop_76 rfl ?_
        refine g_iload_n X 3 rfl dX6_drop_79 rfl ?_
        have fo2 := fo (by omega)
        have hb2 := hI.2.1 y hy0 (by omega)
        refine g_callS X (ct_X6_b l y) (As := [.int (iI y)]) (rest := [.ref (μ 1)]) rfl ca_X6_b rfl wm_X6_59 wt_X6_b wc_X6_b w0_X6 ⟨by decide, by decide⟩ (Nat.le_of_ble_eq_true rfl) ⟨by decide, by decide⟩ rfl dX6_drop_80 rfl ⟨rfl, trivial⟩ (fun r1 L1 M1 hq => ?_)
        obtain ⟨rfl, rfl, rfl⟩ := hq
        refine g_st (st' := [.int (iI (6 + 4 * y)), .ref (μ 1)]) rfl ?_
        refine g_iconst X (z := 1) dX6_drop_83 rfl ?_
        refine g_iadd X dX6_drop_84 rfl ?_
        refine g_iald X (hμ.mem 1 (by decide)) n1 ⟨by omega, by omega⟩ (by decide) dX6_drop_85 rfl ?_
        refine g_istore X (lv' := [(4, .int (iI (f ((6 + 4 * y) + 1)))), (0, .ref (μ 0)), (1, .int (iI i)), (2, .int (iI v)), (3, .int (iI y))]) (by decide) rfl dX6_drop_86 rfl ?_
        refine g_aload_n X 1 rfl dX6_drop_88 rfl ?_
        refine g_get X cl_X6 0 (by decide) wf_X6_7 rfl (hμ.mem 0 (by decide)) n0 rfl dX6_drop_89 rfl ?_
        refine g_iload_n X 4 rfl dX6_drop_92 rfl ?_
        have fo2 := fo (by omega)
        have hb2 := hI.2.1 y hy0 (by omega)
        refine g_callS X (ct_X6_b l y) (As := [.int (iI y)]) (rest := [.ref (μ 1)]) rfl ca_X6_b rfl wm_X6_59 wt_X6_b wc_X6_b w0_X6 ⟨by decide, by decide⟩ (Nat.le_of_ble_eq_true rfl) ⟨by decide, by decide⟩ rfl dX6_drop_93 rfl ⟨rfl, trivial⟩ (fun r1 L1 M1 hq => ?_)
        obtain ⟨rfl, rfl, rfl⟩ := hq
        refine g_st (st' := [.int (iI (6 + 4 * y)), .ref (μ 1)]) rfl ?_
        refine g_iconst X (z := 1) dX6_drop_96 rfl ?_
        refine g_iadd X dX6_drop_97 rfl ?_
        refine g_iload X 0 rfl dX6_drop_98 rfl ?_
        refine g_iload_n X 2 rfl dX6_drop_100 rfl ?_
        refine g_icmp_ne X ⟨by omega, by omega⟩ hi (tgt := 108) dX6_drop_101 (by decide) rfl (fun h_26 => ?_) (fun h_26 => ?_)
        · refine g_iload X 0 rfl dX6_drop_108 rfl ?_
          refine g_iload_n X 2 rfl dX6_drop_110 rfl ?_
          refine g_icmp_le X ⟨by omega, by omega⟩ hi (tgt := 121) dX6_drop_111 (by decide) rfl (fun h_27 => ?_) (fun h_27 => ?_)
          · refine g_iload X 0 rfl dX6_drop_121 rfl ?_
            refine g_iast X (hμ.mem 1 (by decide)) n1 ⟨by omega, by omega⟩ (by decide) dX6_drop_123 rfl (fun M_28 hM_29 fr_30 => ?_)
            obtain ⟨g_31, hg_32⟩ : ∃ x : Int → Int, x = up f ((6 + 4 * y) + 1) (f ((6 + 4 * y) + 1)) := ⟨_, rfl⟩
            rw [← hg_32] at hM_29
            have hM_33 : M_28 (μ 0) = .inr (6, [.ref (μ 1), .ref (μ 2), .ref (μ 3), .ref (μ 4), .ref (μ 5), .ref (μ 6), .ref (μ 7), .ref (μ 8), .int (iI (q 0)), .int (iI (q 1)), .int (iI (q 2)), .int (iI (q 3))]) := (fr_30 (μ 0) (hμ.ne (i := 0) (j := 1) (by decide) (by decide) (by decide))).trans n0
            have hM_34 : M_28 (μ 2) = cI ca 110 g := (fr_30 (μ 2) (hμ.ne (i := 2) (j := 1) (by decide) (by decide) (by decide))).trans n2
            have hM_35 : M_28 (μ 3) = cI ca 110 tr := (fr_30 (μ 3) (hμ.ne (i := 3) (j := 1) (by decide) (by decide) (by decide))).trans n3
            have hM_36 : M_28 (μ 4) = cI ca 660 be := (fr_30 (μ 4) (hμ.ne (i := 4) (j := 1) (by decide) (by decide) (by decide))).trans n4
            have hM_37 : M_28 (μ 5) = cI ca 220 sa := (fr_30 (μ 5) (hμ.ne (i := 5) (j := 1) (by decide) (by decide) (by decide))).trans n5
            have hM_38 : M_28 (μ 6) = cZ ca 2 iz := (fr_30 (μ 6) (hμ.ne (i := 6) (j := 1) (by decide) (by decide) (by decide))).trans n6
            have hM_39 : M_28 (μ 7) = cI ca 33 rd := (fr_30 (μ 7) (hμ.ne (i := 7) (j := 1) (by decide) (by decide) (by decide))).trans n7
            have hM_40 : M_28 (μ 8) = cC ca 60 pa := (fr_30 (μ 8) (hμ.ne (i := 8) (j := 1) (by decide) (by decide) (by decide))).trans n8
            refine g_iinc X (lv' := [(3, .int (iI (y + 1))), (4, .int (iI (f ((6 + 4 * y) + 1)))), (0, .ref (μ 0)), (1, .int (iI i)), (2, .int (iI v))]) 4 rfl (by decide) rfl dX6_drop_124 rfl ?_
            refine g_goto X (n := 69) dX6_drop_127 (by decide) ?_
            refine g_lv (lv' := [(0, .ref (μ 0)), (1, .int (iI i)), (2, .int (iI v)), (3, .int (iI (y + 1)))]) [2, 3, 4, 0] rfl ?_
            exact ih _ _ _ _ hin hv (by omega) (by omega) (by rw [hg_32, ← own_up _ hy0, ← hf, show ownV i ((shr (70 + 10 * i) (70 + 10 * (g 5 - 1)) g) (6 + 4 * y + 1)) = f ((6 + 4 * y) + 1) from by rw [shr_out _ (by omega)]; (first | rw [fo2] | skip); rw [ownV, if_neg (by omega), if_neg (by omega)]]) hM_33 hM_29 hM_34 hM_35 hM_36 hM_37 hM_38 hM_39 hM_40 (fun b hb1 hb2 => ((fr_30 b hb1).trans (hfr b hb1 hb2))) (by omega)
          · refine g_iload X 0 rfl dX6_drop_114 rfl ?_
            refine g_iconst X (z := 1) dX6_drop_116 rfl ?_
            refine g_isub X dX6_drop_117 rfl ?_
            refine g_goto X (n := 123) dX6_drop_118 (by decide) ?_
            refine g_iast X (hμ.mem 1 (by decide)) n1 ⟨by omega, by omega⟩ (by decide) dX6_drop_123 rfl (fun M_41 hM_42 fr_43 => ?_)
            obtain ⟨g_44, hg_45⟩ : ∃ x : Int → Int, x = up f ((6 + 4 * y) + 1) (f ((6 + 4 * y) + 1) - 1) := ⟨_, rfl⟩
            rw [← hg_45] at hM_42
            have hM_46 : M_41 (μ 0) = .inr (6, [.ref (μ 1), .ref (μ 2), .ref (μ 3), .ref (μ 4), .ref (μ 5), .ref (μ 6), .ref (μ 7), .ref (μ 8), .int (iI (q 0)), .int (iI (q 1)), .int (iI (q 2)), .int (iI (q 3))]) := (fr_43 (μ 0) (hμ.ne (i := 0) (j := 1) (by decide) (by decide) (by decide))).trans n0
            have hM_47 : M_41 (μ 2) = cI ca 110 g := (fr_43 (μ 2) (hμ.ne (i := 2) (j := 1) (by decide) (by decide) (by decide))).trans n2
            have hM_48 : M_41 (μ 3) = cI ca 110 tr := (fr_43 (μ 3) (hμ.ne (i := 3) (j := 1) (by decide) (by decide) (by decide))).trans n3
            have hM_49 : M_41 (μ 4) = cI ca 660 be := (fr_43 (μ 4) (hμ.ne (i := 4) (j := 1) (by decide) (by decide) (by decide))).trans n4
            have hM_50 : M_41 (μ 5) = cI ca 220 sa := (fr_43 (μ 5) (hμ.ne (i := 5) (j := 1) (by decide) (by decide) (by decide))).trans n5
            have hM_51 : M_41 (μ 6) = cZ ca 2 iz := (fr_43 (μ 6) (hμ.ne (i := 6) (j := 1) (by decide) (by decide) (by decide))).trans n6
            have hM_52 : M_41 (μ 7) = cI ca 33 rd := (fr_43 (μ 7) (hμ.ne (i := 7) (j := 1) (by decide) (by decide) (by decide))).trans n7
            have hM_53 : M_41 (μ 8) = cC ca 60 pa := (fr_43 (μ 8) (hμ.ne (i := 8) (j := 1) (by decide) (by decide) (by decide))).trans n8
            refine g_iinc X (lv' := [(3, .int (iI (y + 1))), (4, .int (iI (f ((6 + 4 * y) + 1)))), (0, .ref (μ 0)), (1, .int (iI i)), (2, .int (iI v))]) 4 rfl (by decide) rfl dX6_drop_124 rfl ?_
            refine g_goto X (n := 69) dX6_drop_127 (by decide) ?_
            refine g_lv (lv' := [(0, .ref (μ 0)), (1, .int (iI i)), (2, .int (iI v)), (3, .int (iI (y + 1)))]) [2, 3, 4, 0] rfl ?_
            exact ih _ _ _ _ hin hv (by omega) (by omega) (by rw [hg_45, ← own_up _ hy0, ← hf, show ownV i ((shr (70 + 10 * i) (70 + 10 * (g 5 - 1)) g) (6 + 4 * y + 1)) = f ((6 + 4 * y) + 1) - 1 from by rw [shr_out _ (by omega)]; (first | rw [fo2] | skip); rw [ownV, if_neg (by omega), if_pos (by omega)]]) hM_46 hM_42 hM_47 hM_48 hM_49 hM_50 hM_51 hM_52 hM_53 (fun b hb1 hb2 => ((fr_43 b hb1).trans (hfr b hb1 hb2))) (by omega)
        · refine g_iconst X (z := -1) dX6_drop_104 rfl ?_
          refine g_goto X (n := 123) dX6_drop_105 (by decide) ?_
          refine g_iast X (hμ.mem 1 (by decide)) n1 ⟨by omega, by omega⟩ (by decide) dX6_drop_123 rfl (fun M_54 hM_55 fr_56 => ?_)
          obtain ⟨g_57, hg_58⟩ : ∃ x : Int → Int, x = up f ((6 + 4 * y) + 1) (-1) := ⟨_, rfl⟩
          rw [← hg_58] at hM_55
          have hM_59 : M_54 (μ 0) = .inr (6, [.ref (μ 1), .ref (μ 2), .ref (μ 3), .ref (μ 4), .ref (μ 5), .ref (μ 6), .ref (μ 7), .ref (μ 8), .int (iI (q 0)), .int (iI (q 1)), .int (iI (q 2)), .int (iI (q 3))]) := (fr_56 (μ 0) (hμ.ne (i := 0) (j := 1) (by decide) (by decide) (by decide))).trans n0
          have hM_60 : M_54 (μ 2) = cI ca 110 g := (fr_56 (μ 2) (hμ.ne (i := 2) (j := 1) (by decide) (by decide) (by decide))).trans n2
          have hM_61 : M_54 (μ 3) = cI ca 110 tr := (fr_56 (μ 3) (hμ.ne (i := 3) (j := 1) (by decide) (by decide) (by decide))).trans n3
          have hM_62 : M_54 (μ 4) = cI ca 660 be := (fr_56 (μ 4) (hμ.ne (i := 4) (j := 1) (by decide) (by decide) (by decide))).trans n4
          have hM_63 : M_54 (μ 5) = cI ca 220 sa := (fr_56 (μ 5) (hμ.ne (i := 5) (j := 1) (by decide) (by decide) (by decide))).trans n5
          have hM_64 : M_54 (μ 6) = cZ ca 2 iz := (fr_56 (μ 6) (hμ.ne (i := 6) (j := 1) (by decide) (by decide) (by decide))).trans n6
          have hM_65 : M_54 (μ 7) = cI ca 33 rd := (fr_56 (μ 7) (hμ.ne (i := 7) (j := 1) (by decide) (by decide) (by decide))).trans n7
          have hM_66 : M_54 (μ 8) = cC ca 60 pa := (fr_56 (μ 8) (hμ.ne (i := 8) (j := 1) (by decide) (by decide) (by decide))).trans n8
          refine g_iinc X (lv' := [(3, .int (iI (y + 1))), (4, .int (iI (f ((6 + 4 * y) + 1)))), (0, .ref (μ 0)), (1, .int (iI i)), (2, .int (iI v))]) 4 rfl (by decide) rfl dX6_drop_124 rfl ?_
          refine g_goto X (n := 69) dX6_drop_127 (by decide) ?_
          refine g_lv (lv' := [(0, .ref (μ 0)), (1, .int (iI i)), (2, .int (iI v)), (3, .int (iI (y + 1)))]) [2, 3, 4, 0] rfl ?_
          exact ih _ _ _ _ hin hv (by omega) (by omega) (by rw [hg_58, ← own_up _ hy0, ← hf, show ownV i ((shr (70 + 10 * i) (70 + 10 * (g 5 - 1)) g) (6 + 4 * y + 1)) = (-1) from by rw [shr_out _ (by omega)]; (first | rw [fo2] | skip); rw [ownV, if_pos (by omega)]]) hM_59 hM_55 hM_60 hM_61 hM_62 hM_63 hM_64 hM_65 hM_66 (fun b hb1 hb2 => ((fr_56 b hb1).trans (hfr b hb1 hb2))) (by omega)
  have lp1 : ∀ (n : Nat) (v y : Int) (M1 : Mem) (f : Int → Int) (hin : isStr g i) (hv : v = g (70 + 10 * i + 3)) (hy0 : 70 + 10 * i ≤ y) (hy1 : y ≤ 70 + 10 * (g 5 - 1)) (hf : f = shr (70 + 10 * i) y g) (n0 : M1 (μ 0) = .inr (6, [.ref (μ 1), .ref (μ 2), .ref (μ 3), .ref (μ 4), .ref (μ 5), .ref (μ 6), .ref (μ 7), .ref (μ 8), .int (iI (q 0)), .int (iI (q 1)), .int (iI (q 2)), .int (iI (q 3))])) (n1 : M1 (μ 1) = cI ca 110 f) (n2 : M1 (μ 2) = cI ca 110 g) (n3 : M1 (μ 3) = cI ca 110 tr) (n4 : M1 (μ 4) = cI ca 660 be) (n5 : M1 (μ 5) = cI ca 220 sa) (n6 : M1 (μ 6) = cZ ca 2 iz) (n7 : M1 (μ 7) = cI ca 33 rd) (n8 : M1 (μ 8) = cC ca 60 pa) (hfr : ∀ b, b ≠ μ 1 → b ≠ μ 2 → M1 b = M b) (hm : 70 + 10 * (g 5 - 1) - y < (n : Int)), G p l e (Rm 2 0 0) s m args below meth c D A 5 Q 0 0 L M1 31 [(0, .ref (μ 0)), (1, .int (iI i)), (2, .int (iI v)), (3, .int (iI y))] [] := by
    intro n
    induction n with
    | zero =>
      intro v y M1 f hin hv hy0 hy1 hf n0 n1 n2 n3 n4 n5 n6 n7 n8 hfr hm
      exfalso; omega
    | succ n ih =>
      intro v y M1 f hin hv hy0 hy1 hf n0 n1 n2 n3 n4 n5 n6 n7 n8 hfr hm
      have f5 : f 5 = g 5 := by rw [hf, shr_out _ (by omega)]
      refine g_iload_n X 3 rfl dX6_drop_31 rfl ?_
      refine g_aload_n X 0 rfl dX6_drop_32 rfl ?_
      refine g_get X cl_X6 0 (by decide) wf_X6_7 rfl (hμ.mem 0 (by decide)) n0 rfl dX6_drop_33 rfl ?_
      refine g_iconst X (z := 5) dX6_drop_36 rfl ?_
      refine g_iald X (hμ.mem 1 (by decide)) n1 ⟨by decide, by decide⟩ (by decide) dX6_drop_37 rfl ?_
      refine g_iconst X (z := 1) dX6_drop_38 rfl ?_
      refine g_isub X dX6_drop_39 rfl ?_
      refine g_callS X (ct_X6_m l (f 5 - 1)) (As := [.int (iI (f 5 - 1))]) (rest := [.int (iI y)]) rfl ca_X6_m rfl wm_X6_52 wt_X6_m wc_X6_m w0_X6 ⟨by decide, by decide⟩ (Nat.le_of_ble_eq_true rfl) ⟨by decide, by decide⟩ rfl dX6_drop_40 rfl ⟨rfl, trivial⟩ (fun r1 L1 M1 hq => ?_)
      obtain ⟨rfl, rfl, rfl⟩ := hq
      refine g_st (st' := [.int (iI (70 + 10 * (f 5 - 1))), .int (iI y)]) rfl ?_
      refine g_icmp_ge X ⟨by omega, by omega⟩ ⟨by omega, by omega⟩ (tgt := 67) dX6_drop_43 (by decide) rfl (fun h_67 => ?_) (fun h_67 => ?_)
      · refine g_iconst X (z := 0) dX6_drop_67 rfl ?_
        refine g_istore_n X (lv' := [(3, .int (iI 0)), (0, .ref (μ 0)), (1, .int (iI i)), (2, .int (iI v))]) (by decide) rfl dX6_drop_68 rfl ?_
        refine g_lv (lv' := [(0, .ref (μ 0)), (1, .int (iI i)), (2, .int (iI v)), (3, .int (iI 0))]) [1, 2, 3, 0] rfl ?_
        exact lp2 20 _ _ _ _ hin hv (by decide) (by decide) (by rw [own_0, hf, show y = 70 + 10 * (g 5 - 1) from by omega]) n0 n1 n2 n3 n4 n5 n6 n7 n8 (fun b hb1 hb2 => (hfr b hb1 hb2)) (by decide)
      · refine g_aload_n X 0 rfl dX6_drop_46 rfl ?_
        refine g_get X cl_X6 0 (by decide) wf_X6_7 rfl (hμ.mem 0 (by decide)) n0 rfl dX6_drop_47 rfl ?_
        refine g_iload_n X 3 rfl dX6_drop_50 rfl ?_
        refine g_aload_n X 0 rfl dX6_drop_51 rfl ?_
        refine g_get X cl_X6 0 (by decide) wf_X6_7 rfl (hμ.mem 0 (by decide)) n0 rfl dX6_drop_52 rfl ?_
        refine g_iload_n X 3 rfl dX6_drop_55 rfl ?_
        refine g_bipush X (z := 10) (by decide +kernel) dX6_drop_56 rfl ?_
        refine g_iadd X dX6_drop_58 rfl ?_
        refine g_iald X (hμ.mem 1 (by decide)) n1 ⟨by omega, by omega⟩ (by decide) dX6_drop_59 rfl ?_
        refine g_iast X (hμ.mem 1 (by decide)) n1 ⟨by omega, by omega⟩ (by decide) dX6_drop_60 rfl (fun M_68 hM_69 fr_70 => ?_)
        obtain ⟨g_71, hg_72⟩ : ∃ x : Int → Int, x = up f y (f (y + 10)) := ⟨_, rfl⟩
        rw [← hg_72] at hM_69
        have hM_73 : M_68 (μ 0) = .inr (6, [.ref (μ 1), .ref (μ 2), .ref (μ 3), .ref (μ 4), .ref (μ 5), .ref (μ 6), .ref (μ 7), .ref (μ 8), .int (iI (q 0)), .int (iI (q 1)), .int (iI (q 2)), .int (iI (q 3))]) := (fr_70 (μ 0) (hμ.ne (i := 0) (j := 1) (by decide) (by decide) (by decide))).trans n0
        have hM_74 : M_68 (μ 2) = cI ca 110 g := (fr_70 (μ 2) (hμ.ne (i := 2) (j := 1) (by decide) (by decide) (by decide))).trans n2
        have hM_75 : M_68 (μ 3) = cI ca 110 tr := (fr_70 (μ 3) (hμ.ne (i := 3) (j := 1) (by decide) (by decide) (by decide))).trans n3
        have hM_76 : M_68 (μ 4) = cI ca 660 be := (fr_70 (μ 4) (hμ.ne (i := 4) (j := 1) (by decide) (by decide) (by decide))).trans n4
        have hM_77 : M_68 (μ 5) = cI ca 220 sa := (fr_70 (μ 5) (hμ.ne (i := 5) (j := 1) (by decide) (by decide) (by decide))).trans n5
        have hM_78 : M_68 (μ 6) = cZ ca 2 iz := (fr_70 (μ 6) (hμ.ne (i := 6) (j := 1) (by decide) (by decide) (by decide))).trans n6
        have hM_79 : M_68 (μ 7) = cI ca 33 rd := (fr_70 (μ 7) (hμ.ne (i := 7) (j := 1) (by decide) (by decide) (by decide))).trans n7
        have hM_80 : M_68 (μ 8) = cC ca 60 pa := (fr_70 (μ 8) (hμ.ne (i := 8) (j := 1) (by decide) (by decide) (by decide))).trans n8
        refine g_iinc X (lv' := [(3, .int (iI (y + 1))), (0, .ref (μ 0)), (1, .int (iI i)), (2, .int (iI v))]) 3 rfl (by decide) rfl dX6_drop_61 rfl ?_
        refine g_goto X (n := 31) dX6_drop_64 (by decide) ?_
        refine g_lv (lv' := [(0, .ref (μ 0)), (1, .int (iI i)), (2, .int (iI v)), (3, .int (iI (y + 1)))]) [1, 2, 3, 0] rfl ?_
        exact ih _ _ _ _ hin hv (by omega) (by omega) (by rw [hg_72, hf, shr_out _ (by omega), shr_up _ (by omega)]) hM_73 hM_69 hM_74 hM_75 hM_76 hM_77 hM_78 hM_79 hM_80 (fun b hb1 hb2 => ((fr_70 b hb1).trans (hfr b hb1 hb2))) (by omega)
  refine g_aload_n X 0 rfl dX6_drop_0 rfl ?_
  refine g_iload_n X 1 rfl dX6_drop_1 rfl ?_
  refine g_callV X (ct_X6_isStream l μ q g i) (As := [.int (iI i)]) (rest := []) cl_X6 rfl ca_X6_isStream rfl wm_X6_92 wi_X6_isStream ws_X6_isStream wc_X6_isStream w0_X6 ⟨by decide, by decide⟩ (hμ.mem 0 (by decide)) hMo (by decide) ⟨by decide, by decide⟩ rfl dX6_drop_2 rfl ⟨rfl, hμ, hMo, hMs, hi, by omega, by omega⟩ (fun r1 L1 M1 hq => ?_)
  obtain ⟨rfl, rfl, rfl⟩ := hq
  refine g_st (st' := [.int (iI (if 0 ≤ i ∧ i ≤ g 5 - 1 then 1 else 0))]) rfl ?_
  refine g_if_neb X (tgt := 10) dX6_drop_5 (by decide) rfl (fun h_81 => ?_) (fun h_81 => ?_)
  · refine g_aload_n X 0 rfl dX6_drop_10 rfl ?_
    refine g_callV X (ct_X6_hold l μ q g sp) (As := []) (rest := []) cl_X6 rfl ca_X6_hold rfl wm_X6_79 wi_X6_hold ws_X6_hold wc_X6_hold w0_X6 ⟨by decide, by decide⟩ (hμ.mem 0 (by decide)) hMo (by decide) ⟨by decide, by decide⟩ rfl dX6_drop_11 rfl ⟨rfl, hμ, hMo, hMs, hM2⟩ (fun r1 L1 M_82 hq => ?_)
    obtain ⟨rfl, rfl, hM_83, fr_84⟩ := hq
    have hM_85 : M_82 (μ 0) = .inr (6, [.ref (μ 1), .ref (μ 2), .ref (μ 3), .ref (μ 4), .ref (μ 5), .ref (μ 6), .ref (μ 7), .ref (μ 8), .int (iI (q 0)), .int (iI (q 1)), .int (iI (q 2)), .int (iI (q 3))]) := (fr_84 (μ 0) (hμ.ne (i := 0) (j := 2) (by decide) (by decide) (by decide))).trans hMo
    have hM_86 : M_82 (μ 1) = cI ca 110 g := (fr_84 (μ 1) (hμ.ne (i := 1) (j := 2) (by decide) (by decide) (by decide))).trans hMs
    have hM_87 : M_82 (μ 3) = cI ca 110 tr := (fr_84 (μ 3) (hμ.ne (i := 3) (j := 2) (by decide) (by decide) (by decide))).trans hM3
    have hM_88 : M_82 (μ 4) = cI ca 660 be := (fr_84 (μ 4) (hμ.ne (i := 4) (j := 2) (by decide) (by decide) (by decide))).trans hM4
    have hM_89 : M_82 (μ 5) = cI ca 220 sa := (fr_84 (μ 5) (hμ.ne (i := 5) (j := 2) (by decide) (by decide) (by decide))).trans hM5
    have hM_90 : M_82 (μ 6) = cZ ca 2 iz := (fr_84 (μ 6) (hμ.ne (i := 6) (j := 2) (by decide) (by decide) (by decide))).trans hM6
    have hM_91 : M_82 (μ 7) = cI ca 33 rd := (fr_84 (μ 7) (hμ.ne (i := 7) (j := 2) (by decide) (by decide) (by decide))).trans hM7
    have hM_92 : M_82 (μ 8) = cC ca 60 pa := (fr_84 (μ 8) (hμ.ne (i := 8) (j := 2) (by decide) (by decide) (by decide))).trans hM8
    refine g_st (st' := []) rfl ?_
    refine g_aload_n X 0 rfl dX6_drop_14 rfl ?_
    refine g_get X cl_X6 0 (by decide) wf_X6_7 rfl (hμ.mem 0 (by decide)) hM_85 rfl dX6_drop_15 rfl ?_
    refine g_iload_n X 1 rfl dX6_drop_18 rfl ?_
    refine g_callS X (ct_X6_m l i) (As := [.int (iI i)]) (rest := [.ref (μ 1)]) rfl ca_X6_m rfl wm_X6_52 wt_X6_m wc_X6_m w0_X6 ⟨by decide, by decide⟩ (Nat.le_of_ble_eq_true rfl) ⟨by decide, by decide⟩ rfl dX6_drop_19 rfl ⟨rfl, trivial⟩ (fun r1 L1 M1 hq => ?_)
    obtain ⟨rfl, rfl, rfl⟩ := hq
    refine g_st (st' := [.int (iI (70 + 10 * i)), .ref (μ 1)]) rfl ?_
    refine g_iconst X (z := 3) dX6_drop_22 rfl ?_
    refine g_iadd X dX6_drop_23 rfl ?_
    refine g_iald X (hμ.mem 1 (by decide)) hM_86 ⟨by omega, by omega⟩ (by decide) dX6_drop_24 rfl ?_
    refine g_istore_n X (lv' := [(2, .int (iI (g ((70 + 10 * i) + 3)))), (0, .ref (μ 0)), (1, .int (iI i))]) (by decide) rfl dX6_drop_25 rfl ?_
    refine g_iload_n X 2 rfl dX6_drop_26 rfl ?_
    refine g_callS X (ct_X6_m l i) (As := [.int (iI i)]) (rest := []) rfl ca_X6_m rfl wm_X6_52 wt_X6_m wc_X6_m w0_X6 ⟨by decide, by decide⟩ (by decide) ⟨by decide, by decide⟩ rfl dX6_drop_27 rfl ⟨rfl, trivial⟩ (fun r1 L1 M1 hq => ?_)
    obtain ⟨rfl, rfl, rfl⟩ := hq
    refine g_st (st' := [.int (iI (70 + 10 * i))]) rfl ?_
    refine g_istore_n X (lv' := [(3, .int (iI (70 + 10 * i))), (2, .int (iI (g ((70 + 10 * i) + 3)))), (0, .ref (μ 0)), (1, .int (iI i))]) (by decide) rfl dX6_drop_30 rfl ?_
    have hin : isStr g i := h_81
    refine g_lv (lv' := [(0, .ref (μ 0)), (1, .int (iI i)), (2, .int (iI (g ((70 + 10 * i) + 3)))), (3, .int (iI (70 + 10 * i)))]) [2, 3, 1, 0] rfl ?_
    exact lp1 50 _ _ _ _ hin rfl (by omega) (by omega) (by rw [shr_0]) hM_85 hM_86 hM_83 hM_87 hM_88 hM_89 hM_90 hM_91 hM_92 (fun b hb1 hb2 => (fr_84 b hb2)) (by omega)
  · refine g_iconst X (z := -1) dX6_drop_8 rfl ?_
    subst hQ
    exact g_iret X hret ⟨Nat.le_of_ble_eq_true rfl, Nat.le_of_ble_eq_true rfl⟩ dX6_drop_9 ⟨by rw [anDrop, if_neg h_81], rfl, by rw [opDrop, if_neg h_81]; exact ⟨q, _, _, _, rfl, rfl, hMo, hMs, hM2, hM3, hM4, hM5, hM6, hM7, hM8⟩, (fun b hb => rfl)⟩
set_option maxRecDepth 100000 in
set_option maxHeartbeats 4000000 in
theorem ct_X6_run (l : Launch) (μ : Nat → Nat) (q g : Int → Int) (sp tr be sa iz rd pa : Int → Int) (v : Int) : Ct l yX6_run cX6_run 4 (some .int) 5 0 0 (fun ca av L M => av = [.ref (μ 0), .int (iI v)] ∧ MuOk μ L ∧ M (μ 0) = oMd μ q ∧ M (μ 1) = cI ca 110 g ∧ M (μ 2) = cI ca 110 sp ∧ M (μ 3) = cI ca 110 tr ∧ M (μ 4) = cI ca 660 be ∧ M (μ 5) = cI ca 220 sa ∧ M (μ 6) = cZ ca 2 iz ∧ M (μ 7) = cI ca 33 rd ∧ M (μ 8) = cC ca 60 pa ∧ Inv g ∧ (0 ≤ q 0 ∧ q 0 ≤ 60) ∧ (0 ≤ q 1 ∧ q 1 ≤ 6) ∧ R32 v ∧ g 4 ≤ 99999) (fun ca av L M r L1 M1 => r = some (.int (iI (anRun (g, be, sa, iz, pa, q 0, q 1) v))) ∧ L = L1 ∧ Md ca M1 μ (opRun (g, be, sa, iz, pa, q 0, q 1) v) ∧ ∀ b, (∀ i, i < 9 → b ≠ μ i) → M1 b = M b) := by
  refine Ct_of (own := RX6) (by decide) rfl (by rintro _ _ _ _ ⟨rfl, _⟩; exact Nat.le_of_ble_eq_true rfl) ?_
  rintro p e s m args below meth c D ca A av L M ⟨rfl, hμ, hMo, hMs, hM2, hM3, hM4, hM5, hM6, hM7, hM8, hI, hq0, hq1, hv, hc4⟩ X hret hname
  refine g_lv (lv' := [(0, .ref (μ 0)), (1, .int (iI v))]) [0, 1] rfl ?_
  generalize hQ : MQ below _ args s _ _ A = Q
  obtain ⟨⟨i00, i01⟩, ⟨i10, i11⟩, ⟨i20, i21⟩, ⟨i30, i31⟩, ⟨i40, i41⟩, i50, i51⟩ := id hI.1
  have lp : ∀ (n : Nat) (k : Nat) (z y : Int) (M1 : Mem) (f : Int → Int) (hv1 : 1 ≤ v ∧ v ≤ 500) (hv2 : ¬ g 4 > 99999 - v) (hy : y = k) (hyv : y ≤ v) (hf : f = itG g k) (hz : z = itR g k) (n0 : M1 (μ 0) = .inr (6, [.ref (μ 1), .ref (μ 2), .ref (μ 3), .ref (μ 4), .ref (μ 5), .ref (μ 6), .ref (μ 7), .ref (μ 8), .int (iI (q 0)), .int (iI (q 1)), .int (iI (q 2)), .int (iI (q 3))])) (n1 : M1 (μ 1) = cI ca 110 f) (n2 : M1 (μ 2) = cI ca 110 g) (n3 : M1 (μ 3) = cI ca 110 tr) (n4 : M1 (μ 4) = cI ca 660 be) (n5 : M1 (μ 5) = cI ca 220 sa) (n6 : M1 (μ 6) = cZ ca 2 iz) (n7 : M1 (μ 7) = cI ca 33 rd) (n8 : M1 (μ 8) = cC ca 60 pa) (hfr : ∀ b, b ≠ μ 1 → b ≠ μ 2 → M1 b = M b) (hm : v - y < (n : Int)), G p l e (Rm 5 0 0) s m args below meth c D A 4 Q 0 0 L M1 38 [(0, .ref (μ 0)), (1, .int (iI v)), (2, .int (iI z)), (3, .int (iI y))] [] := by
    intro n
    induction n with
    | zero =>
      intro k z y M1 f hv1 hv2 hy hyv hf hz n0 n1 n2 n3 n4 n5 n6 n7 n8 hfr hm
      exfalso; omega
    | succ n ih =>
      intro k z y M1 f hv1 hv2 hy hyv hf hz n0 n1 n2 n3 n4 n5 n6 n7 n8 hfr hm
      have ok := itG_ok hI k (by omega)
      have hfI : Inv f := by rw [hf]; exact ok.1
      have f4 : f 4 = g 4 + k := by rw [hf]; exact ok.2.1
      refine g_iload_n X 3 rfl dX6_run_38 rfl ?_
      refine g_iload_n X 1 rfl dX6_run_39 rfl ?_
      refine g_icmp_ge X ⟨by omega, by omega⟩ hv (tgt := 56) dX6_run_40 (by decide) rfl (fun h_1 => ?_) (fun h_1 => ?_)
      · refine g_aload_n X 0 rfl dX6_run_56 rfl ?_
        refine g_iload_n X 2 rfl dX6_run_57 rfl ?_
        refine g_callV X (ct_X6_recorded l μ q f g be z) (As := [.int (iI z)]) (rest := []) cl_X6 rfl ca_X6_recorded rfl wm_X6_85 wi_X6_recorded ws_X6_recorded wc_X6_recorded w0_X6 ⟨by decide, by decide⟩ (hμ.mem 0 (by decide)) n0 (by decide) ⟨by decide, by decide⟩ rfl dX6_run_58 rfl ⟨rfl, hμ, n0, n1, n2, n4, hq1.1, hq1.2⟩ (fun r1 L1 M_2 hq => ?_)
        obtain ⟨rfl, rfl, hM_3, hM_4, fr_5⟩ := hq
        have hM_6 : M_2 (μ 1) = cI ca 110 f := (fr_5 _ (hμ.ne (i := 1) (j := 0) (by decide) (by decide) (by decide)) (hμ.ne (i := 1) (j := 4) (by decide) (by decide) (by decide))).trans n1
        have hM_7 : M_2 (μ 2) = cI ca 110 g := (fr_5 _ (hμ.ne (i := 2) (j := 0) (by decide) (by decide) (by decide)) (hμ.ne (i := 2) (j := 4) (by decide) (by decide) (by decide))).trans n2
        have hM_8 : M_2 (μ 3) = cI ca 110 tr := (fr_5 _ (hμ.ne (i := 3) (j := 0) (by decide) (by decide) (by decide)) (hμ.ne (i := 3) (j := 4) (by decide) (by decide) (by decide))).trans n3
        have hM_9 : M_2 (μ 5) = cI ca 220 sa := (fr_5 _ (hμ.ne (i := 5) (j := 0) (by decide) (by decide) (by decide)) (hμ.ne (i := 5) (j := 4) (by decide) (by decide) (by decide))).trans n5
        have hM_10 : M_2 (μ 6) = cZ ca 2 iz := (fr_5 _ (hμ.ne (i := 6) (j := 0) (by decide) (by decide) (by decide)) (hμ.ne (i := 6) (j := 4) (by decide) (by decide) (by decide))).trans n6
        have hM_11 : M_2 (μ 7) = cI ca 33 rd := (fr_5 _ (hμ.ne (i := 7) (j := 0) (by decide) (by decide) (by decide)) (hμ.ne (i := 7) (j := 4) (by decide) (by decide) (by decide))).trans n7
        have hM_12 : M_2 (μ 8) = cC ca 60 pa := (fr_5 _ (hμ.ne (i := 8) (j := 0) (by decide) (by decide) (by decide)) (hμ.ne (i := 8) (j := 4) (by decide) (by decide) (by decide))).trans n8
        refine g_st (st' := [.int (iI z)]) rfl ?_
        subst hQ
        have hk2 : v.toNat = k := by omega
        exact g_iret X hret ⟨Nat.le_of_ble_eq_true rfl, Nat.le_of_ble_eq_true rfl⟩ dX6_run_61 ⟨by rw [anRun, if_pos (by first | omega | (dsimp only; omega)), if_neg (by first | omega | (dsimp only; omega)), hz, hk2], rfl, by rw [opRun, if_pos (by first | omega | (dsimp only; omega)), hk2, ← hf]; exact ⟨(up q 1 (recN (q 1))), _, _, _, rfl, rfl, hM_3, hM_6, hM_7, hM_8, hM_4, hM_9, hM_10, hM_11, hM_12⟩, (fun b hb => ((fr_5 b (hb 0 (by decide)) (hb 4 (by decide))).trans (hfr b (hb 1 (by decide)) (hb 2 (by decide)))))⟩
      · refine g_iload_n X 2 rfl dX6_run_43 rfl ?_
        refine g_aload_n X 0 rfl dX6_run_44 rfl ?_
        refine g_callV X (ct_X6_cycle l μ q f) (As := []) (rest := [.int (iI z)]) cl_X6 rfl ca_X6_cycle rfl wm_X6_72 wi_X6_cycle ws_X6_cycle wc_X6_cycle w0_X6 ⟨by decide, by decide⟩ (hμ.mem 0 (by decide)) n0 (Nat.le_of_ble_eq_true rfl) ⟨by decide, by decide⟩ rfl dX6_run_45 rfl ⟨rfl, hμ, n0, n1, hfI, by omega⟩ (fun r1 L1 M_13 hq => ?_)
        obtain ⟨rfl, rfl, hM_14, fr_15⟩ := hq
        have hM_16 : M_13 (μ 0) = .inr (6, [.ref (μ 1), .ref (μ 2), .ref (μ 3), .ref (μ 4), .ref (μ 5), .ref (μ 6), .ref (μ 7), .ref (μ 8), .int (iI (q 0)), .int (iI (q 1)), .int (iI (q 2)), .int (iI (q 3))]) := (fr_15 (μ 0) (hμ.ne (i := 0) (j := 1) (by decide) (by decide) (by decide))).trans n0
        have hM_17 : M_13 (μ 2) = cI ca 110 g := (fr_15 (μ 2) (hμ.ne (i := 2) (j := 1) (by decide) (by decide) (by decide))).trans n2
        have hM_18 : M_13 (μ 3) = cI ca 110 tr := (fr_15 (μ 3) (hμ.ne (i := 3) (j := 1) (by decide) (by decide) (by decide))).trans n3
        have hM_19 : M_13 (μ 4) = cI ca 660 be := (fr_15 (μ 4) (hμ.ne (i := 4) (j := 1) (by decide) (by decide) (by decide))).trans n4
        have hM_20 : M_13 (μ 5) = cI ca 220 sa := (fr_15 (μ 5) (hμ.ne (i := 5) (j := 1) (by decide) (by decide) (by decide))).trans n5
        have hM_21 : M_13 (μ 6) = cZ ca 2 iz := (fr_15 (μ 6) (hμ.ne (i := 6) (j := 1) (by decide) (by decide) (by decide))).trans n6
        have hM_22 : M_13 (μ 7) = cI ca 33 rd := (fr_15 (μ 7) (hμ.ne (i := 7) (j := 1) (by decide) (by decide) (by decide))).trans n7
        have hM_23 : M_13 (μ 8) = cC ca 60 pa := (fr_15 (μ 8) (hμ.ne (i := 8) (j := 1) (by decide) (by decide) (by decide))).trans n8
        refine g_st (st' := [.int (iI (cycR f)), .int (iI z)]) rfl ?_
        refine g_iadd X dX6_run_48 rfl ?_
        refine g_istore_n X (lv' := [(2, .int (iI (z + cycR f))), (0, .ref (μ 0)), (1, .int (iI v)), (3, .int (iI y))]) (by decide) rfl dX6_run_49 rfl ?_
        refine g_iinc X (lv' := [(3, .int (iI (y + 1))), (2, .int (iI (z + cycR f))), (0, .ref (μ 0)), (1, .int (iI v))]) 3 rfl (by decide) rfl dX6_run_50 rfl ?_
        refine g_goto X (n := 38) dX6_run_53 (by decide) ?_
        refine g_lv (lv' := [(0, .ref (μ 0)), (1, .int (iI v)), (2, .int (iI (z + cycR f))), (3, .int (iI (y + 1)))]) [2, 3, 1, 0] rfl ?_
        exact ih (k + 1) _ _ _ _ hv1 hv2 (by omega) (by omega) (by simp only [itG]; rw [hf]) (by simp only [itR]; rw [hz, hf]) hM_16 hM_14 hM_17 hM_18 hM_19 hM_20 hM_21 hM_22 hM_23 (fun b hb1 hb2 => ((fr_15 b hb1).trans (hfr b hb1 hb2))) (by omega)
  refine g_iload_n X 1 rfl dX6_run_0 rfl ?_
  refine g_iconst X (z := 1) dX6_run_1 rfl ?_
  refine g_sipush X (z := 500) (by decide +kernel) dX6_run_2 rfl ?_
  refine g_callS X (ct_X6_in l v 1 500) (As := [.int (iI v), .int (iI 1), .int (iI 500)]) (rest := []) rfl ca_X6_in rfl wm_X6_36 wt_X6_in wc_X6_in w0_X6 ⟨by decide, by decide⟩ (by decide) ⟨by decide, by decide⟩ rfl dX6_run_5 rfl ⟨rfl, hv, ⟨by decide, by decide⟩, ⟨by decide, by decide⟩⟩ (fun r1 L1 M1 hq => ?_)
  obtain ⟨rfl, rfl, rfl⟩ := hq
  refine g_st (st' := [.int (iI (if 1 ≤ v ∧ v ≤ 500 then 1 else 0))]) rfl ?_
  refine g_if_neb X (tgt := 14) dX6_run_8 (by decide) rfl (fun h_24 => ?_) (fun h_24 => ?_)
  · refine g_aload_n X 0 rfl dX6_run_14 rfl ?_
    refine g_get X cl_X6 0 (by decide) wf_X6_7 rfl (hμ.mem 0 (by decide)) hMo rfl dX6_run_15 rfl ?_
    refine g_iconst X (z := 4) dX6_run_18 rfl ?_
    refine g_iald X (hμ.mem 1 (by decide)) hMs ⟨by decide, by decide⟩ (by decide) dX6_run_19 rfl ?_
    refine g_ldc X (z := 99999) wv_X6_95 (by decide +kernel) dX6_run_20 rfl ?_
    refine g_iload_n X 1 rfl dX6_run_22 rfl ?_
    refine g_isub X dX6_run_23 rfl ?_
    refine g_icmp_le X ⟨by omega, by omega⟩ ⟨by omega, by omega⟩ (tgt := 30) dX6_run_24 (by decide) rfl (fun h_25 => ?_) (fun h_25 => ?_)
    · refine g_aload_n X 0 rfl dX6_run_30 rfl ?_
      refine g_callV X (ct_X6_hold l μ q g sp) (As := []) (rest := []) cl_X6 rfl ca_X6_hold rfl wm_X6_79 wi_X6_hold ws_X6_hold wc_X6_hold w0_X6 ⟨by decide, by decide⟩ (hμ.mem 0 (by decide)) hMo (by decide) ⟨by decide, by decide⟩ rfl dX6_run_31 rfl ⟨rfl, hμ, hMo, hMs, hM2⟩ (fun r1 L1 M_26 hq => ?_)
      obtain ⟨rfl, rfl, hM_27, fr_28⟩ := hq
      have hM_29 : M_26 (μ 0) = .inr (6, [.ref (μ 1), .ref (μ 2), .ref (μ 3), .ref (μ 4), .ref (μ 5), .ref (μ 6), .ref (μ 7), .ref (μ 8), .int (iI (q 0)), .int (iI (q 1)), .int (iI (q 2)), .int (iI (q 3))]) := (fr_28 (μ 0) (hμ.ne (i := 0) (j := 2) (by decide) (by decide) (by decide))).trans hMo
      have hM_30 : M_26 (μ 1) = cI ca 110 g := (fr_28 (μ 1) (hμ.ne (i := 1) (j := 2) (by decide) (by decide) (by decide))).trans hMs
      have hM_31 : M_26 (μ 3) = cI ca 110 tr := (fr_28 (μ 3) (hμ.ne (i := 3) (j := 2) (by decide) (by decide) (by decide))).trans hM3
      have hM_32 : M_26 (μ 4) = cI ca 660 be := (fr_28 (μ 4) (hμ.ne (i := 4) (j := 2) (by decide) (by decide) (by decide))).trans hM4
      have hM_33 : M_26 (μ 5) = cI ca 220 sa := (fr_28 (μ 5) (hμ.ne (i := 5) (j := 2) (by decide) (by decide) (by decide))).trans hM5
      have hM_34 : M_26 (μ 6) = cZ ca 2 iz := (fr_28 (μ 6) (hμ.ne (i := 6) (j := 2) (by decide) (by decide) (by decide))).trans hM6
      have hM_35 : M_26 (μ 7) = cI ca 33 rd := (fr_28 (μ 7) (hμ.ne (i := 7) (j := 2) (by decide) (by decide) (by decide))).trans hM7
      have hM_36 : M_26 (μ 8) = cC ca 60 pa := (fr_28 (μ 8) (hμ.ne (i := 8) (j := 2) (by decide) (by decide) (by decide))).trans hM8
      refine g_st (st' := []) rfl ?_
      refine g_iconst X (z := 0) dX6_run_34 rfl ?_
      refine g_istore_n X (lv' := [(2, .int (iI 0)), (0, .ref (μ 0)), (1, .int (iI v))]) (by decide) rfl dX6_run_35 rfl ?_
      refine g_iconst X (z := 0) dX6_run_36 rfl ?_
      refine g_istore_n X (lv' := [(3, .int (iI 0)), (2, .int (iI 0)), (0, .ref (μ 0)), (1, .int (iI v))]) (by decide) rfl dX6_run_37 rfl ?_
      refine g_lv (lv' := [(0, .ref (μ 0)), (1, .int (iI v)), (2, .int (iI 0)), (3, .int (iI 0))]) [2, 3, 1, 0] rfl ?_
      exact lp 510 0 _ _ _ _ (by omega) (by omega) rfl (by omega) rfl rfl hM_29 hM_30 hM_27 hM_31 hM_32 hM_33 hM_34 hM_35 hM_36 (fun b hb1 hb2 => (fr_28 b hb2)) (by omega)
    · refine g_bipush X (z := -4) (by decide +kernel) dX6_run_27 rfl ?_
      subst hQ
      exact g_iret X hret ⟨Nat.le_of_ble_eq_true rfl, Nat.le_of_ble_eq_true rfl⟩ dX6_run_29 ⟨by rw [anRun, if_pos (by first | omega | (dsimp only; omega)), if_pos (by first | omega | (dsimp only; omega))], rfl, by rw [opRun, if_neg (by first | omega | (dsimp only; omega))]; exact ⟨q, _, _, _, rfl, rfl, hMo, hMs, hM2, hM3, hM4, hM5, hM6, hM7, hM8⟩, (fun b hb => rfl)⟩
  · refine g_bipush X (z := -2) (by decide +kernel) dX6_run_11 rfl ?_
    subst hQ
    exact g_iret X hret ⟨Nat.le_of_ble_eq_true rfl, Nat.le_of_ble_eq_true rfl⟩ dX6_run_13 ⟨by rw [anRun, if_neg (by first | omega | (dsimp only; omega))], rfl, by rw [opRun, if_neg (by first | omega | (dsimp only; omega))]; exact ⟨q, _, _, _, rfl, rfl, hMo, hMs, hM2, hM3, hM4, hM5, hM6, hM7, hM8⟩, (fun b hb => rfl)⟩
set_option maxRecDepth 100000 in
set_option maxHeartbeats 4000000 in
theorem ct_X6_bankOf (l : Launch) (μ : Nat → Nat) (q g : Int → Int) (sp tr be sa iz rd pa : Int → Int) (a : Int) : Ct l yX6_bankOf cX6_bankOf 2 (some .int) 3 0 0 (fun ca av L M => av = [.ref (μ 0), .int (iI a)] ∧ MuOk μ L ∧ M (μ 0) = oMd μ q ∧ M (μ 1) = cI ca 110 g ∧ M (μ 2) = cI ca 110 sp ∧ M (μ 3) = cI ca 110 tr ∧ M (μ 4) = cI ca 660 be ∧ M (μ 5) = cI ca 220 sa ∧ M (μ 6) = cZ ca 2 iz ∧ M (μ 7) = cI ca 33 rd ∧ M (μ 8) = cC ca 60 pa ∧ Inv g ∧ (0 ≤ q 0 ∧ q 0 ≤ 60) ∧ (0 ≤ q 1 ∧ q 1 ≤ 6) ∧ R32 a) (fun ca av L M r L1 M1 => r = some (.int (iI (anBankOf (g, be, sa, iz, pa, q 0, q 1) a))) ∧ L = L1 ∧ Md ca M1 μ ((g, be, sa, iz, pa, q 0, q 1)) ∧ ∀ b, (∀ i, i < 9 → b ≠ μ i) → M1 b = M b) := by
  refine Ct_of (own := RX6) (by decide) rfl (by rintro _ _ _ _ ⟨rfl, _⟩; exact Nat.le_of_ble_eq_true rfl) ?_
  rintro p e s m args below meth c D ca A av L M ⟨rfl, hμ, hMo, hMs, hM2, hM3, hM4, hM5, hM6, hM7, hM8, hI, hq0, hq1, ha⟩ X hret hname
  refine g_lv (lv' := [(0, .ref (μ 0)), (1, .int (iI a))]) [0, 1] rfl ?_
  obtain ⟨⟨i00, i01⟩, ⟨i10, i11⟩, ⟨i20, i21⟩, ⟨i30, i31⟩, ⟨i40, i41⟩, i50, i51⟩ := id hI.1
  refine g_iload_n X 1 rfl dX6_bankOf_0 rfl ?_
  refine g_iconst X (z := 0) dX6_bankOf_1 rfl ?_
  refine g_sipush X (z := 4095) (by decide +kernel) dX6_bankOf_2 rfl ?_
  refine g_callS X (ct_X6_in l a 0 4095) (As := [.int (iI a), .int (iI 0), .int (iI 4095)]) (rest := []) rfl ca_X6_in rfl wm_X6_36 wt_X6_in wc_X6_in w0_X6 ⟨by decide, by decide⟩ (by decide) ⟨by decide, by decide⟩ rfl dX6_bankOf_5 rfl ⟨rfl, ha, ⟨by decide, by decide⟩, ⟨by decide, by decide⟩⟩ (fun r1 L1 M1 hq => ?_)
  obtain ⟨rfl, rfl, rfl⟩ := hq
  refine g_st (st' := [.int (iI (if 0 ≤ a ∧ a ≤ 4095 then 1 else 0))]) rfl ?_
  refine g_if_eqb X (tgt := 19) dX6_bankOf_8 (by decide) rfl (fun h_1 => ?_) (fun h_1 => ?_)
  · refine g_bipush X (z := -2) (by decide +kernel) dX6_bankOf_19 rfl ?_
    exact g_iret X hret ⟨Nat.le_of_ble_eq_true rfl, Nat.le_of_ble_eq_true rfl⟩ dX6_bankOf_21 ⟨by rw [anBankOf, if_neg h_1], rfl, ⟨q, _, _, _, rfl, rfl, hMo, hMs, hM2, hM3, hM4, hM5, hM6, hM7, hM8⟩, (fun b hb => rfl)⟩
  · refine g_aload_n X 0 rfl dX6_bankOf_11 rfl ?_
    refine g_iload_n X 1 rfl dX6_bankOf_12 rfl ?_
    refine g_callV X (ct_X6_bankAt l μ q g a) (As := [.int (iI a)]) (rest := []) cl_X6 rfl ca_X6_bankAt rfl wm_X6_56 wi_X6_bankAt ws_X6_bankAt wc_X6_bankAt w0_X6 ⟨by decide, by decide⟩ (hμ.mem 0 (by decide)) hMo (by decide) ⟨by decide, by decide⟩ rfl dX6_bankOf_13 rfl ⟨rfl, hμ, hMo, hMs, hI.1, by omega, by omega⟩ (fun r1 L1 M1 hq => ?_)
    obtain ⟨rfl, rfl, rfl⟩ := hq
    refine g_st (st' := [.int (iI (bkG g a))]) rfl ?_
    refine g_goto X (n := 21) dX6_bankOf_16 (by decide) ?_
    exact g_iret X hret ⟨Nat.le_of_ble_eq_true rfl, Nat.le_of_ble_eq_true rfl⟩ dX6_bankOf_21 ⟨by rw [anBankOf, if_pos h_1], rfl, ⟨q, _, _, _, rfl, rfl, hMo, hMs, hM2, hM3, hM4, hM5, hM6, hM7, hM8⟩, (fun b hb => rfl)⟩
set_option maxRecDepth 100000 in
set_option maxHeartbeats 4000000 in
theorem ct_X6_comes (l : Launch) (μ : Nat → Nat) (q g : Int → Int) (tr : Int → Int) (p0 i : Int) : Ct l yX6_comes cX6_comes 4 none 1 0 0 (fun ca av L M => av = [.ref (μ 0), .int (iI p0), .int (iI i)] ∧ MuOk μ L ∧ M (μ 0) = oMd μ q ∧ M (μ 1) = cI ca 110 g ∧ M (μ 3) = cI ca 110 tr ∧ (0 ≤ p0 ∧ p0 ≤ 3) ∧ (0 ≤ i ∧ i ≤ 3)) (fun ca av L M r L1 M1 => r = none ∧ L = L1 ∧ M1 (μ 1) = cI ca 110 (cmG 10 p0 i tr g) ∧ ∀ b, b ≠ μ 1 → M1 b = M b) := by
  refine Ct_of (own := RX6) (by decide) rfl (by rintro _ _ _ _ ⟨rfl, _⟩; exact Nat.le_of_ble_eq_true rfl) ?_
  rintro p e s m args below meth c D ca A av L M ⟨rfl, hμ, hMo, hMs, hM3, hp, hi⟩ X hret hname
  refine g_lv (lv' := [(0, .ref (μ 0)), (1, .int (iI p0)), (2, .int (iI i))]) [0, 1, 2] rfl ?_
  generalize hQ : MQ below _ args s _ _ A = Q
  have lp : ∀ (n : Nat) (y : Int) (M1 : Mem) (f : Int → Int) (hy0 : 0 ≤ y) (hy1 : y ≤ 10) (hf : f = cmG y p0 i tr g) (n0 : M1 (μ 0) = oMd μ q) (n1 : M1 (μ 1) = cI ca 110 f) (n3 : M1 (μ 3) = cI ca 110 tr) (hfr : ∀ b, b ≠ μ 1 → M1 b = M b) (hm : 10 - y < (n : Int)), G p l e (Rm 1 0 0) s m args below meth c D A 4 Q 0 0 L M1 2 [(0, .ref (μ 0)), (1, .int (iI p0)), (2, .int (iI i)), (3, .int (iI y))] [] := by
    intro n
    induction n with
    | zero =>
      intro y M1 f hy0 hy1 hf n0 n1 n3 hfr hm
      exfalso; omega
    | succ n ih =>
      intro y M1 f hy0 hy1 hf n0 n1 n3 hfr hm
      refine g_iload_n X 3 rfl dX6_comes_2 rfl ?_
      refine g_bipush X (z := 10) (by decide +kernel) dX6_comes_3 rfl ?_
      refine g_icmp_ge X ⟨by omega, by omega⟩ ⟨by decide, by decide⟩ (tgt := 36) dX6_comes_5 (by decide) rfl (fun h_1 => ?_) (fun h_1 => ?_)
      · subst hQ
        exact g_vret X hret ⟨Nat.le_of_ble_eq_true rfl, Nat.le_of_ble_eq_true rfl⟩ dX6_comes_36 ⟨rfl, rfl, by rw [n1, hf, show y = 10 from by omega], fun b hb => (hfr b hb)⟩
      · refine g_aload_n X 0 rfl dX6_comes_8 rfl ?_
        refine g_get X cl_X6 0 (by decide) wf_X6_7 rfl (hμ.mem 0 (by decide)) n0 rfl dX6_comes_9 rfl ?_
        refine g_iload_n X 1 rfl dX6_comes_12 rfl ?_
        refine g_callS X (ct_X6_m l p0) (As := [.int (iI p0)]) (rest := [.ref (μ 1)]) rfl ca_X6_m rfl wm_X6_52 wt_X6_m wc_X6_m w0_X6 ⟨by decide, by decide⟩ (Nat.le_of_ble_eq_true rfl) ⟨by decide, by decide⟩ rfl dX6_comes_13 rfl ⟨rfl, trivial⟩ (fun r1 L1 M1 hq => ?_)
        obtain ⟨rfl, rfl, rfl⟩ := hq
        refine g_st (st' := [.int (iI (70 + 10 * p0)), .ref (μ 1)]) rfl ?_
        refine g_iload_n X 3 rfl dX6_comes_16 rfl ?_
        refine g_iadd X dX6_comes_17 rfl ?_
        refine g_aload_n X 0 rfl dX6_comes_18 rfl ?_
        refine g_get X cl_X6 2 (by decide) wf_X6_16 rfl (hμ.mem 0 (by decide)) n0 rfl dX6_comes_19 rfl ?_
        refine g_iload_n X 2 rfl dX6_comes_22 rfl ?_
        refine g_callS X (ct_X6_m l i) (As := [.int (iI i)]) (rest := [.ref (μ 3), .int (iI ((70 + 10 * p0) + y)), .ref (μ 1)]) rfl ca_X6_m rfl wm_X6_52 wt_X6_m wc_X6_m w0_X6 ⟨by decide, by decide⟩ (Nat.le_of_ble_eq_true rfl) ⟨by decide, by decide⟩ rfl dX6_comes_23 rfl ⟨rfl, trivial⟩ (fun r1 L1 M1 hq => ?_)
        obtain ⟨rfl, rfl, rfl⟩ := hq
        refine g_st (st' := [.int (iI (70 + 10 * i)), .ref (μ 3), .int (iI ((70 + 10 * p0) + y)), .ref (μ 1)]) rfl ?_
        refine g_iload_n X 3 rfl dX6_comes_26 rfl ?_
        refine g_iadd X dX6_comes_27 rfl ?_
        refine g_iald X (hμ.mem 3 (by decide)) n3 ⟨by omega, by omega⟩ (by decide) dX6_comes_28 rfl ?_
        refine g_iast X (hμ.mem 1 (by decide)) n1 ⟨by omega, by omega⟩ (by decide) dX6_comes_29 rfl (fun M_2 hM_3 fr_4 => ?_)
        obtain ⟨g_5, hg_6⟩ : ∃ x : Int → Int, x = up f ((70 + 10 * p0) + y) (tr ((70 + 10 * i) + y)) := ⟨_, rfl⟩
        rw [← hg_6] at hM_3
        have hM_7 : M_2 (μ 0) = .inr (6, [.ref (μ 1), .ref (μ 2), .ref (μ 3), .ref (μ 4), .ref (μ 5), .ref (μ 6), .ref (μ 7), .ref (μ 8), .int (iI (q 0)), .int (iI (q 1)), .int (iI (q 2)), .int (iI (q 3))]) := (fr_4 (μ 0) (hμ.ne (i := 0) (j := 1) (by decide) (by decide) (by decide))).trans n0
        have hM_8 : M_2 (μ 3) = cI ca 110 tr := (fr_4 (μ 3) (hμ.ne (i := 3) (j := 1) (by decide) (by decide) (by decide))).trans n3
        refine g_iinc X (lv' := [(3, .int (iI (y + 1))), (0, .ref (μ 0)), (1, .int (iI p0)), (2, .int (iI i))]) 3 rfl (by decide) rfl dX6_comes_30 rfl ?_
        refine g_goto X (n := 2) dX6_comes_33 (by decide) ?_
        refine g_lv (lv' := [(0, .ref (μ 0)), (1, .int (iI p0)), (2, .int (iI i)), (3, .int (iI (y + 1)))]) [1, 2, 3, 0] rfl ?_
        exact ih _ _ _ (by omega) (by omega) (by rw [hg_6, hf, cmG_up _ _ _ _ hy0]) hM_7 hM_3 hM_8 (fun b hb => ((fr_4 b hb).trans (hfr b hb))) (by omega)
  refine g_iconst X (z := 0) dX6_comes_0 rfl ?_
  refine g_istore_n X (lv' := [(3, .int (iI 0)), (0, .ref (μ 0)), (1, .int (iI p0)), (2, .int (iI i))]) (by decide) rfl dX6_comes_1 rfl ?_
  refine g_lv (lv' := [(0, .ref (μ 0)), (1, .int (iI p0)), (2, .int (iI i)), (3, .int (iI 0))]) [1, 2, 3, 0] rfl ?_
  exact lp 20 _ _ _ (by decide) (by decide) (by rw [cmG_0]) hMo hMs hM3 (fun _ _ => rfl) (by decide)
set_option maxRecDepth 100000 in
set_option maxHeartbeats 4000000 in
theorem ct_X6_untilDone (l : Launch) (μ : Nat → Nat) (q g : Int → Int) (sp tr be sa iz rd pa : Int → Int) : Ct l yX6_untilDone cX6_untilDone 2 (some .int) 6 0 0 (fun ca av L M => av = [.ref (μ 0)] ∧ MuOk μ L ∧ M (μ 0) = oMd μ q ∧ M (μ 1) = cI ca 110 g ∧ M (μ 2) = cI ca 110 sp ∧ M (μ 3) = cI ca 110 tr ∧ M (μ 4) = cI ca 660 be ∧ M (μ 5) = cI ca 220 sa ∧ M (μ 6) = cZ ca 2 iz ∧ M (μ 7) = cI ca 33 rd ∧ M (μ 8) = cC ca 60 pa ∧ Inv g ∧ (0 ≤ q 0 ∧ q 0 ≤ 60) ∧ (0 ≤ q 1 ∧ q 1 ≤ 6) ∧ g 4 ≤ 99999) (fun ca av L M r L1 M1 => r = some (.int (iI (roC 20000 g))) ∧ L = L1 ∧ Md ca M1 μ ((g, be, sa, iz, pa, q 0, q 1)) ∧ ∀ b, (∀ i, i < 9 → b ≠ μ i) → M1 b = M b) := by
  refine Ct_of (own := RX6) (by decide) rfl (by rintro _ _ _ _ ⟨rfl, _⟩; exact Nat.le_of_ble_eq_true rfl) ?_
  rintro p e s m args below meth c D ca A av L M ⟨rfl, hμ, hMo, hMs, hM2, hM3, hM4, hM5, hM6, hM7, hM8, hI, hq0, hq1, hc4⟩ X hret hname
  refine g_lv (lv' := [(0, .ref (μ 0))]) [0] rfl ?_
  refine g_aload_n X 0 rfl dX6_untilDone_0 rfl ?_
  refine g_callV X (ct_X6_keepTrial l μ q g tr) (As := []) (rest := []) cl_X6 rfl ca_X6_keepTrial rfl wm_X6_138 wi_X6_keepTrial ws_X6_keepTrial wc_X6_keepTrial w0_X6 ⟨by decide, by decide⟩ (hμ.mem 0 (by decide)) hMo (by decide) ⟨by decide, by decide⟩ rfl dX6_untilDone_1 rfl ⟨rfl, hμ, hMo, hMs, hM3⟩ (fun r1 L1 M_1 hq => ?_)
  obtain ⟨rfl, rfl, hM_2, fr_3⟩ := hq
  have hM_4 : M_1 (μ 0) = .inr (6, [.ref (μ 1), .ref (μ 2), .ref (μ 3), .ref (μ 4), .ref (μ 5), .ref (μ 6), .ref (μ 7), .ref (μ 8), .int (iI (q 0)), .int (iI (q 1)), .int (iI (q 2)), .int (iI (q 3))]) := (fr_3 (μ 0) (hμ.ne (i := 0) (j := 3) (by decide) (by decide) (by decide))).trans hMo
  have hM_5 : M_1 (μ 1) = cI ca 110 g := (fr_3 (μ 1) (hμ.ne (i := 1) (j := 3) (by decide) (by decide) (by decide))).trans hMs
  have hM_6 : M_1 (μ 2) = cI ca 110 sp := (fr_3 (μ 2) (hμ.ne (i := 2) (j := 3) (by decide) (by decide) (by decide))).trans hM2
  have hM_7 : M_1 (μ 4) = cI ca 660 be := (fr_3 (μ 4) (hμ.ne (i := 4) (j := 3) (by decide) (by decide) (by decide))).trans hM4
  have hM_8 : M_1 (μ 5) = cI ca 220 sa := (fr_3 (μ 5) (hμ.ne (i := 5) (j := 3) (by decide) (by decide) (by decide))).trans hM5
  have hM_9 : M_1 (μ 6) = cZ ca 2 iz := (fr_3 (μ 6) (hμ.ne (i := 6) (j := 3) (by decide) (by decide) (by decide))).trans hM6
  have hM_10 : M_1 (μ 7) = cI ca 33 rd := (fr_3 (μ 7) (hμ.ne (i := 7) (j := 3) (by decide) (by decide) (by decide))).trans hM7
  have hM_11 : M_1 (μ 8) = cC ca 60 pa := (fr_3 (μ 8) (hμ.ne (i := 8) (j := 3) (by decide) (by decide) (by decide))).trans hM8
  refine g_st (st' := []) rfl ?_
  refine g_aload_n X 0 rfl dX6_untilDone_4 rfl ?_
  refine g_callV X (ct_X6_runsOut l μ q g) (As := []) (rest := []) cl_X6 rfl ca_X6_runsOut rfl wm_X6_141 wi_X6_runsOut ws_X6_runsOut wc_X6_runsOut w0_X6 ⟨by decide, by decide⟩ (hμ.mem 0 (by decide)) hM_4 (by decide) ⟨by decide, by decide⟩ rfl dX6_untilDone_5 rfl ⟨rfl, hμ, hM_4, hM_5, hI, by omega⟩ (fun r1 L1 M_12 hq => ?_)
  obtain ⟨rfl, rfl, hM_13, fr_14⟩ := hq
  have hM_15 : M_12 (μ 0) = .inr (6, [.ref (μ 1), .ref (μ 2), .ref (μ 3), .ref (μ 4), .ref (μ 5), .ref (μ 6), .ref (μ 7), .ref (μ 8), .int (iI (q 0)), .int (iI (q 1)), .int (iI (q 2)), .int (iI (q 3))]) := (fr_14 (μ 0) (hμ.ne (i := 0) (j := 1) (by decide) (by decide) (by decide))).trans hM_4
  have hM_16 : M_12 (μ 2) = cI ca 110 sp := (fr_14 (μ 2) (hμ.ne (i := 2) (j := 1) (by decide) (by decide) (by decide))).trans hM_6
  have hM_17 : M_12 (μ 4) = cI ca 660 be := (fr_14 (μ 4) (hμ.ne (i := 4) (j := 1) (by decide) (by decide) (by decide))).trans hM_7
  have hM_18 : M_12 (μ 5) = cI ca 220 sa := (fr_14 (μ 5) (hμ.ne (i := 5) (j := 1) (by decide) (by decide) (by decide))).trans hM_8
  have hM_19 : M_12 (μ 6) = cZ ca 2 iz := (fr_14 (μ 6) (hμ.ne (i := 6) (j := 1) (by decide) (by decide) (by decide))).trans hM_9
  have hM_20 : M_12 (μ 7) = cI ca 33 rd := (fr_14 (μ 7) (hμ.ne (i := 7) (j := 1) (by decide) (by decide) (by decide))).trans hM_10
  have hM_21 : M_12 (μ 8) = cC ca 60 pa := (fr_14 (μ 8) (hμ.ne (i := 8) (j := 1) (by decide) (by decide) (by decide))).trans hM_11
  have hM_22 : M_12 (μ 3) = cI ca 110 g := (fr_14 (μ 3) (hμ.ne (i := 3) (j := 1) (by decide) (by decide) (by decide))).trans hM_2
  refine g_st (st' := [.int (iI (roC 20000 g))]) rfl ?_
  refine g_istore_n X (lv' := [(1, .int (iI (roC 20000 g))), (0, .ref (μ 0))]) (by decide) rfl dX6_untilDone_8 rfl ?_
  refine g_aload_n X 1 rfl dX6_untilDone_9 rfl ?_
  refine g_callV X (ct_X6_putBack l μ q (roS 20000 g) g) (As := []) (rest := []) cl_X6 rfl ca_X6_putBack rfl wm_X6_144 wi_X6_putBack ws_X6_putBack wc_X6_putBack w0_X6 ⟨by decide, by decide⟩ (hμ.mem 0 (by decide)) hM_15 (by decide) ⟨by decide, by decide⟩ rfl dX6_untilDone_10 rfl ⟨rfl, hμ, hM_15, hM_13, hM_22⟩ (fun r1 L1 M_23 hq => ?_)
  obtain ⟨rfl, rfl, hM_24, fr_25⟩ := hq
  have hM_26 : M_23 (μ 0) = .inr (6, [.ref (μ 1), .ref (μ 2), .ref (μ 3), .ref (μ 4), .ref (μ 5), .ref (μ 6), .ref (μ 7), .ref (μ 8), .int (iI (q 0)), .int (iI (q 1)), .int (iI (q 2)), .int (iI (q 3))]) := (fr_25 (μ 0) (hμ.ne (i := 0) (j := 1) (by decide) (by decide) (by decide))).trans hM_15
  have hM_27 : M_23 (μ 2) = cI ca 110 sp := (fr_25 (μ 2) (hμ.ne (i := 2) (j := 1) (by decide) (by decide) (by decide))).trans hM_16
  have hM_28 : M_23 (μ 4) = cI ca 660 be := (fr_25 (μ 4) (hμ.ne (i := 4) (j := 1) (by decide) (by decide) (by decide))).trans hM_17
  have hM_29 : M_23 (μ 5) = cI ca 220 sa := (fr_25 (μ 5) (hμ.ne (i := 5) (j := 1) (by decide) (by decide) (by decide))).trans hM_18
  have hM_30 : M_23 (μ 6) = cZ ca 2 iz := (fr_25 (μ 6) (hμ.ne (i := 6) (j := 1) (by decide) (by decide) (by decide))).trans hM_19
  have hM_31 : M_23 (μ 7) = cI ca 33 rd := (fr_25 (μ 7) (hμ.ne (i := 7) (j := 1) (by decide) (by decide) (by decide))).trans hM_20
  have hM_32 : M_23 (μ 8) = cC ca 60 pa := (fr_25 (μ 8) (hμ.ne (i := 8) (j := 1) (by decide) (by decide) (by decide))).trans hM_21
  have hM_33 : M_23 (μ 3) = cI ca 110 g := (fr_25 (μ 3) (hμ.ne (i := 3) (j := 1) (by decide) (by decide) (by decide))).trans hM_22
  refine g_st (st' := []) rfl ?_
  refine g_iload_n X 0 rfl dX6_untilDone_13 rfl ?_
  exact g_iret X hret ⟨Nat.le_of_ble_eq_true rfl, Nat.le_of_ble_eq_true rfl⟩ dX6_untilDone_14 ⟨rfl, rfl, ⟨q, _, _, _, rfl, rfl, hM_26, hM_24, hM_27, hM_33, hM_28, hM_29, hM_30, hM_31, hM_32⟩, (fun b hb => ((fr_25 b (hb 1 (by decide))).trans ((fr_14 b (hb 1 (by decide))).trans (fr_3 b (hb 3 (by decide))))))⟩
set_option maxRecDepth 100000 in
set_option maxHeartbeats 4000000 in
theorem ct_X6_cyclesWith (l : Launch) (μ : Nat → Nat) (q g : Int → Int) (tr : Int → Int) (i v : Int) : Ct l yX6_cyclesWith cX6_cyclesWith 4 (some .int) 6 0 0 (fun ca av L M => av = [.ref (μ 0), .int (iI i), .int (iI v)] ∧ MuOk μ L ∧ M (μ 0) = oMd μ q ∧ M (μ 1) = cI ca 110 g ∧ M (μ 3) = cI ca 110 tr ∧ Inv g ∧ 0 ≤ i ∧ i < g 5 ∧ (0 ≤ v ∧ v < 1024)) (fun ca av L M r L1 M1 => r = some (.int (iI (cwC g i v))) ∧ L = L1 ∧ M1 (μ 1) = cI ca 110 g ∧ (∃ t2, M1 (μ 3) = cI ca 110 t2) ∧ ∀ b, b ≠ μ 1 → b ≠ μ 3 → M1 b = M b) := by
  refine Ct_of (own := RX6) (by decide) rfl (by rintro _ _ _ _ ⟨rfl, _⟩; exact Nat.le_of_ble_eq_true rfl) ?_
  rintro p e s m args below meth c D ca A av L M ⟨rfl, hμ, hMo, hMs, hM3, hI, h0, h1, hv⟩ X hret hname
  refine g_lv (lv' := [(0, .ref (μ 0)), (1, .int (iI i)), (2, .int (iI v))]) [0, 1, 2] rfl ?_
  obtain ⟨⟨i00, i01⟩, ⟨i10, i11⟩, ⟨i20, i21⟩, ⟨i30, i31⟩, ⟨i40, i41⟩, i50, i51⟩ := id hI.1
  have ok := cw_ok hI h0 h1 hv
  have okI := bga_inv ok.1 ok.2.1
  have ok4 := bga_cyc (cwG g i v)
  refine g_aload_n X 0 rfl dX6_cyclesWith_0 rfl ?_
  refine g_callV X (ct_X6_keepTrial l μ q g tr) (As := []) (rest := []) cl_X6 rfl ca_X6_keepTrial rfl wm_X6_138 wi_X6_keepTrial ws_X6_keepTrial wc_X6_keepTrial w0_X6 ⟨by decide, by decide⟩ (hμ.mem 0 (by decide)) hMo (by decide) ⟨by decide, by decide⟩ rfl dX6_cyclesWith_1 rfl ⟨rfl, hμ, hMo, hMs, hM3⟩ (fun r1 L1 M_1 hq => ?_)
  obtain ⟨rfl, rfl, hM_2, fr_3⟩ := hq
  have hM_4 : M_1 (μ 0) = .inr (6, [.ref (μ 1), .ref (μ 2), .ref (μ 3), .ref (μ 4), .ref (μ 5), .ref (μ 6), .ref (μ 7), .ref (μ 8), .int (iI (q 0)), .int (iI (q 1)), .int (iI (q 2)), .int (iI (q 3))]) := (fr_3 (μ 0) (hμ.ne (i := 0) (j := 3) (by decide) (by decide) (by decide))).trans hMo
  have hM_5 : M_1 (μ 1) = cI ca 110 g := (fr_3 (μ 1) (hμ.ne (i := 1) (j := 3) (by decide) (by decide) (by decide))).trans hMs
  refine g_st (st' := []) rfl ?_
  refine g_aload_n X 0 rfl dX6_cyclesWith_4 rfl ?_
  refine g_iconst X (z := 0) dX6_cyclesWith_5 rfl ?_
  refine g_iload_n X 1 rfl dX6_cyclesWith_6 rfl ?_
  refine g_callV X (ct_X6_comes l μ q g g 0 i) (As := [.int (iI 0), .int (iI i)]) (rest := []) cl_X6 rfl ca_X6_comes rfl wm_X6_147 wi_X6_comes ws_X6_comes wc_X6_comes w0_X6 ⟨by decide, by decide⟩ (hμ.mem 0 (by decide)) hM_4 (by decide) ⟨by decide, by decide⟩ rfl dX6_cyclesWith_7 rfl ⟨rfl, hμ, hM_4, hM_5, hM_2, by omega, by omega⟩ (fun r1 L1 M_6 hq => ?_)
  obtain ⟨rfl, rfl, hM_7, fr_8⟩ := hq
  have hM_9 : M_6 (μ 0) = .inr (6, [.ref (μ 1), .ref (μ 2), .ref (μ 3), .ref (μ 4), .ref (μ 5), .ref (μ 6), .ref (μ 7), .ref (μ 8), .int (iI (q 0)), .int (iI (q 1)), .int (iI (q 2)), .int (iI (q 3))]) := (fr_8 (μ 0) (hμ.ne (i := 0) (j := 1) (by decide) (by decide) (by decide))).trans hM_4
  have hM_10 : M_6 (μ 3) = cI ca 110 g := (fr_8 (μ 3) (hμ.ne (i := 3) (j := 1) (by decide) (by decide) (by decide))).trans hM_2
  refine g_st (st' := []) rfl ?_
  refine g_aload_n X 0 rfl dX6_cyclesWith_10 rfl ?_
  refine g_get X cl_X6 0 (by decide) wf_X6_7 rfl (hμ.mem 0 (by decide)) hM_9 rfl dX6_cyclesWith_11 rfl ?_
  refine g_iconst X (z := 0) dX6_cyclesWith_14 rfl ?_
  refine g_callS X (ct_X6_m l 0) (As := [.int (iI 0)]) (rest := [.ref (μ 1)]) rfl ca_X6_m rfl wm_X6_52 wt_X6_m wc_X6_m w0_X6 ⟨by decide, by decide⟩ (Nat.le_of_ble_eq_true rfl) ⟨by decide, by decide⟩ rfl dX6_cyclesWith_15 rfl ⟨rfl, trivial⟩ (fun r1 L1 M1 hq => ?_)
  obtain ⟨rfl, rfl, rfl⟩ := hq
  refine g_st (st' := [.int (iI (70 + 10 * 0)), .ref (μ 1)]) rfl ?_
  refine g_iconst X (z := 1) dX6_cyclesWith_18 rfl ?_
  refine g_iadd X dX6_cyclesWith_19 rfl ?_
  refine g_iload_n X 2 rfl dX6_cyclesWith_20 rfl ?_
  refine g_iast X (hμ.mem 1 (by decide)) hM_7 ⟨by omega, by omega⟩ (by decide) dX6_cyclesWith_21 rfl (fun M_11 hM_12 fr_13 => ?_)
  obtain ⟨g_14, hg_15⟩ : ∃ x : Int → Int, x = up (cmG 10 0 i g g) ((70 + 10 * 0) + 1) v := ⟨_, rfl⟩
  rw [← hg_15] at hM_12
  have hM_16 : M_11 (μ 0) = .inr (6, [.ref (μ 1), .ref (μ 2), .ref (μ 3), .ref (μ 4), .ref (μ 5), .ref (μ 6), .ref (μ 7), .ref (μ 8), .int (iI (q 0)), .int (iI (q 1)), .int (iI (q 2)), .int (iI (q 3))]) := (fr_13 (μ 0) (hμ.ne (i := 0) (j := 1) (by decide) (by decide) (by decide))).trans hM_9
  have hM_17 : M_11 (μ 3) = cI ca 110 g := (fr_13 (μ 3) (hμ.ne (i := 3) (j := 1) (by decide) (by decide) (by decide))).trans hM_10
  refine g_aload_n X 0 rfl dX6_cyclesWith_22 rfl ?_
  refine g_get X cl_X6 0 (by decide) wf_X6_7 rfl (hμ.mem 0 (by decide)) hM_16 rfl dX6_cyclesWith_23 rfl ?_
  refine g_iconst X (z := 5) dX6_cyclesWith_26 rfl ?_
  refine g_iconst X (z := 1) dX6_cyclesWith_27 rfl ?_
  refine g_iast X (hμ.mem 1 (by decide)) hM_12 ⟨by decide, by decide⟩ (by decide) dX6_cyclesWith_28 rfl (fun M_18 hM_19 fr_20 => ?_)
  obtain ⟨g_21, hg_22⟩ : ∃ x : Int → Int, x = up g_14 5 1 := ⟨_, rfl⟩
  rw [← hg_22] at hM_19
  have hM_23 : M_18 (μ 0) = .inr (6, [.ref (μ 1), .ref (μ 2), .ref (μ 3), .ref (μ 4), .ref (μ 5), .ref (μ 6), .ref (μ 7), .ref (μ 8), .int (iI (q 0)), .int (iI (q 1)), .int (iI (q 2)), .int (iI (q 3))]) := (fr_20 (μ 0) (hμ.ne (i := 0) (j := 1) (by decide) (by decide) (by decide))).trans hM_16
  have hM_24 : M_18 (μ 3) = cI ca 110 g := (fr_20 (μ 3) (hμ.ne (i := 3) (j := 1) (by decide) (by decide) (by decide))).trans hM_17
  refine g_aload_n X 0 rfl dX6_cyclesWith_29 rfl ?_
  refine g_callV X (ct_X6_beginsAnew l μ q g_21) (As := []) (rest := []) cl_X6 rfl ca_X6_beginsAnew rfl wm_X6_82 wi_X6_beginsAnew ws_X6_beginsAnew wc_X6_beginsAnew w0_X6 ⟨by decide, by decide⟩ (hμ.mem 0 (by decide)) hM_23 (by decide) ⟨by decide, by decide⟩ rfl dX6_cyclesWith_30 rfl ⟨rfl, hμ, hM_23, hM_19, by rw [hg_22, hg_15]; exact (by omega : (0 : Int) ≤ cwG g i v 5), by rw [hg_22, hg_15]; exact (by omega : cwG g i v 5 ≤ 4)⟩ (fun r1 L1 M_25 hq => ?_)
  obtain ⟨rfl, rfl, hM_26, fr_27⟩ := hq
  have hM_28 : M_25 (μ 0) = .inr (6, [.ref (μ 1), .ref (μ 2), .ref (μ 3), .ref (μ 4), .ref (μ 5), .ref (μ 6), .ref (μ 7), .ref (μ 8), .int (iI (q 0)), .int (iI (q 1)), .int (iI (q 2)), .int (iI (q 3))]) := (fr_27 (μ 0) (hμ.ne (i := 0) (j := 1) (by decide) (by decide) (by decide))).trans hM_23
  have hM_29 : M_25 (μ 3) = cI ca 110 g := (fr_27 (μ 3) (hμ.ne (i := 3) (j := 1) (by decide) (by decide) (by decide))).trans hM_24
  refine g_st (st' := []) rfl ?_
  refine g_aload_n X 0 rfl dX6_cyclesWith_33 rfl ?_
  refine g_callV X (ct_X6_runsOut l μ q (bgaG g_21)) (As := []) (rest := []) cl_X6 rfl ca_X6_runsOut rfl wm_X6_141 wi_X6_runsOut ws_X6_runsOut wc_X6_runsOut w0_X6 ⟨by decide, by decide⟩ (hμ.mem 0 (by decide)) hM_28 (by decide) ⟨by decide, by decide⟩ rfl dX6_cyclesWith_34 rfl ⟨rfl, hμ, hM_28, hM_26, by rw [hg_22, hg_15]; exact okI, by rw [hg_22, hg_15]; exact (by omega : bgaG (cwG g i v) 4 ≤ 900000)⟩ (fun r1 L1 M_30 hq => ?_)
  obtain ⟨rfl, rfl, hM_31, fr_32⟩ := hq
  have hM_33 : M_30 (μ 0) = .inr (6, [.ref (μ 1), .ref (μ 2), .ref (μ 3), .ref (μ 4), .ref (μ 5), .ref (μ 6), .ref (μ 7), .ref (μ 8), .int (iI (q 0)), .int (iI (q 1)), .int (iI (q 2)), .int (iI (q 3))]) := (fr_32 (μ 0) (hμ.ne (i := 0) (j := 1) (by decide) (by decide) (by decide))).trans hM_28
  have hM_34 : M_30 (μ 3) = cI ca 110 g := (fr_32 (μ 3) (hμ.ne (i := 3) (j := 1) (by decide) (by decide) (by decide))).trans hM_29
  refine g_st (st' := [.int (iI (roC 20000 (bgaG g_21)))]) rfl ?_
  refine g_istore_n X (lv' := [(3, .int (iI (roC 20000 (bgaG g_21)))), (0, .ref (μ 0)), (1, .int (iI i)), (2, .int (iI v))]) (by decide) rfl dX6_cyclesWith_37 rfl ?_
  refine g_aload_n X 1 rfl dX6_cyclesWith_38 rfl ?_
  refine g_callV X (ct_X6_putBack l μ q (roS 20000 (bgaG g_21)) g) (As := []) (rest := []) cl_X6 rfl ca_X6_putBack rfl wm_X6_144 wi_X6_putBack ws_X6_putBack wc_X6_putBack w0_X6 ⟨by decide, by decide⟩ (hμ.mem 0 (by decide)) hM_33 (by decide) ⟨by decide, by decide⟩ rfl dX6_cyclesWith_39 rfl ⟨rfl, hμ, hM_33, hM_31, hM_34⟩ (fun r1 L1 M_35 hq => ?_)
  obtain ⟨rfl, rfl, hM_36, fr_37⟩ := hq
  have hM_38 : M_35 (μ 0) = .inr (6, [.ref (μ 1), .ref (μ 2), .ref (μ 3), .ref (μ 4), .ref (μ 5), .ref (μ 6), .ref (μ 7), .ref (μ 8), .int (iI (q 0)), .int (iI (q 1)), .int (iI (q 2)), .int (iI (q 3))]) := (fr_37 (μ 0) (hμ.ne (i := 0) (j := 1) (by decide) (by decide) (by decide))).trans hM_33
  have hM_39 : M_35 (μ 3) = cI ca 110 g := (fr_37 (μ 3) (hμ.ne (i := 3) (j := 1) (by decide) (by decide) (by decide))).trans hM_34
  refine g_st (st' := []) rfl ?_
  refine g_iload_n X 0 rfl dX6_cyclesWith_42 rfl ?_
  subst hg_22 hg_15
  exact g_iret X hret ⟨Nat.le_of_ble_eq_true rfl, Nat.le_of_ble_eq_true rfl⟩ dX6_cyclesWith_43 ⟨rfl, rfl, hM_36, ⟨_, hM_39⟩, fun b hb hb3 => ((fr_37 b hb).trans ((fr_32 b hb).trans ((fr_27 b hb).trans ((fr_20 b hb).trans ((fr_13 b hb).trans ((fr_8 b hb).trans (fr_3 b hb3)))))))⟩
