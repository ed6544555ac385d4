/-! the reference: what-ifs and what there is -/
set_option maxRecDepth 100000 in
set_option maxHeartbeats 4000000 in
theorem ct_X6_alone (l : Launch) (μ : Nat → Nat) (q g : Int → Int) (sp tr be sa iz rd pa : Int → Int) (i v : Int) : Ct l yX6_alone cX6_alone 3 (some .int) 7 0 0 (fun ca av L M => av = [.ref (μ 0), .int (iI i), .int (iI v)] ∧ MuOk μ L ∧ M (μ 0) = oMd μ q ∧ M (μ 1) = cI ca 110 g ∧ M (μ 2) = cI ca 110 sp ∧ M (μ 3) = cI ca 110 tr ∧ M (μ 4) = cI ca 660 be ∧ M (μ 5) = cI ca 220 sa ∧ M (μ 6) = cZ ca 2 iz ∧ M (μ 7) = cI ca 33 rd ∧ M (μ 8) = cC ca 60 pa ∧ Inv g ∧ (0 ≤ q 0 ∧ q 0 ≤ 60) ∧ (0 ≤ q 1 ∧ q 1 ≤ 6) ∧ R32 i ∧ R32 v) (fun ca av L M r L1 M1 => r = some (.int (iI (anAlone (g, be, sa, iz, pa, q 0, q 1) i v))) ∧ L = L1 ∧ Md ca M1 μ ((g, be, sa, iz, pa, q 0, q 1)) ∧ ∀ b, (∀ i, i < 9 → b ≠ μ i) → M1 b = M b) := by
  refine Ct_of (own := RX6) (by decide) rfl (by rintro _ _ _ _ ⟨rfl, _⟩; exact Nat.le_of_ble_eq_true rfl) ?_
  rintro p e s m args below meth c D ca A av L M ⟨rfl, hμ, hMo, hMs, hM2, hM3, hM4, hM5, hM6, hM7, hM8, hI, hq0, hq1, hi, hv⟩ X hret hname
  refine g_lv (lv' := [(0, .ref (μ 0)), (1, .int (iI i)), (2, .int (iI v))]) [0, 1, 2] rfl ?_
  obtain ⟨⟨i00, i01⟩, ⟨i10, i11⟩, ⟨i20, i21⟩, ⟨i30, i31⟩, ⟨i40, i41⟩, i50, i51⟩ := id hI.1
  refine g_aload_n X 0 rfl dX6_alone_0 rfl ?_
  refine g_iload_n X 1 rfl dX6_alone_1 rfl ?_
  refine g_callV X (ct_X6_isStream l μ q g i) (As := [.int (iI i)]) (rest := []) cl_X6 rfl ca_X6_isStream rfl wm_X6_92 wi_X6_isStream ws_X6_isStream wc_X6_isStream w0_X6 ⟨by decide, by decide⟩ (hμ.mem 0 (by decide)) hMo (by decide) ⟨by decide, by decide⟩ rfl dX6_alone_2 rfl ⟨rfl, hμ, hMo, hMs, hi, by omega, by omega⟩ (fun r1 L1 M1 hq => ?_)
  obtain ⟨rfl, rfl, rfl⟩ := hq
  refine g_st (st' := [.int (iI (if 0 ≤ i ∧ i ≤ g 5 - 1 then 1 else 0))]) rfl ?_
  refine g_if_neb X (tgt := 10) dX6_alone_5 (by decide) rfl (fun h_1 => ?_) (fun h_1 => ?_)
  · refine g_iload_n X 2 rfl dX6_alone_10 rfl ?_
    refine g_iconst X (z := 0) dX6_alone_11 rfl ?_
    refine g_sipush X (z := 1023) (by decide +kernel) dX6_alone_12 rfl ?_
    refine g_callS X (ct_X6_in l v 0 1023) (As := [.int (iI v), .int (iI 0), .int (iI 1023)]) (rest := []) rfl ca_X6_in rfl wm_X6_36 wt_X6_in wc_X6_in w0_X6 ⟨by decide, by decide⟩ (by decide) ⟨by decide, by decide⟩ rfl dX6_alone_15 rfl ⟨rfl, hv, ⟨by decide, by decide⟩, ⟨by decide, by decide⟩⟩ (fun r1 L1 M1 hq => ?_)
    obtain ⟨rfl, rfl, rfl⟩ := hq
    refine g_st (st' := [.int (iI (if 0 ≤ v ∧ v ≤ 1023 then 1 else 0))]) rfl ?_
    refine g_if_eqb X (tgt := 30) dX6_alone_18 (by decide) rfl (fun h_2 => ?_) (fun h_2 => ?_)
    · refine g_bipush X (z := -2) (by decide +kernel) dX6_alone_30 rfl ?_
      exact g_iret X hret ⟨Nat.le_of_ble_eq_true rfl, Nat.le_of_ble_eq_true rfl⟩ dX6_alone_32 ⟨by rw [anAlone, if_pos h_1, if_neg h_2], rfl, ⟨q, _, _, _, rfl, rfl, hMo, hMs, hM2, hM3, hM4, hM5, hM6, hM7, hM8⟩, (fun b hb => rfl)⟩
    · refine g_aload_n X 0 rfl dX6_alone_21 rfl ?_
      refine g_iload_n X 1 rfl dX6_alone_22 rfl ?_
      refine g_iload_n X 2 rfl dX6_alone_23 rfl ?_
      refine g_callV X (ct_X6_cyclesWith l μ q g tr i v) (As := [.int (iI i), .int (iI v)]) (rest := []) cl_X6 rfl ca_X6_cyclesWith rfl wm_X6_151 wi_X6_cyclesWith ws_X6_cyclesWith wc_X6_cyclesWith w0_X6 ⟨by decide, by decide⟩ (hμ.mem 0 (by decide)) hMo (by decide) ⟨by decide, by decide⟩ rfl dX6_alone_24 rfl ⟨rfl, hμ, hMo, hMs, hM3, hI, by omega, by omega, by omega⟩ (fun r1 L1 M_3 hq => ?_)
      obtain ⟨rfl, rfl, hM_4, ⟨t_7, hM_5⟩, fr_6⟩ := hq
      have hM_8 : M_3 (μ 0) = .inr (6, [.ref (μ 1), .ref (μ 2), .ref (μ 3), .ref (μ 4), .ref (μ 5), .ref (μ 6), .ref (μ 7), .ref (μ 8), .int (iI (q 0)), .int (iI (q 1)), .int (iI (q 2)), .int (iI (q 3))]) := (fr_6 _ (hμ.ne (i := 0) (j := 1) (by decide) (by decide) (by decide)) (hμ.ne (i := 0) (j := 3) (by decide) (by decide) (by decide))).trans hMo
      have hM_9 : M_3 (μ 2) = cI ca 110 sp := (fr_6 _ (hμ.ne (i := 2) (j := 1) (by decide) (by decide) (by decide)) (hμ.ne (i := 2) (j := 3) (by decide) (by decide) (by decide))).trans hM2
      have hM_10 : M_3 (μ 4) = cI ca 660 be := (fr_6 _ (hμ.ne (i := 4) (j := 1) (by decide) (by decide) (by decide)) (hμ.ne (i := 4) (j := 3) (by decide) (by decide) (by decide))).trans hM4
      have hM_11 : M_3 (μ 5) = cI ca 220 sa := (fr_6 _ (hμ.ne (i := 5) (j := 1) (by decide) (by decide) (by decide)) (hμ.ne (i := 5) (j := 3) (by decide) (by decide) (by decide))).trans hM5
      have hM_12 : M_3 (μ 6) = cZ ca 2 iz := (fr_6 _ (hμ.ne (i := 6) (j := 1) (by decide) (by decide) (by decide)) (hμ.ne (i := 6) (j := 3) (by decide) (by decide) (by decide))).trans hM6
      have hM_13 : M_3 (μ 7) = cI ca 33 rd := (fr_6 _ (hμ.ne (i := 7) (j := 1) (by decide) (by decide) (by decide)) (hμ.ne (i := 7) (j := 3) (by decide) (by decide) (by decide))).trans hM7
      have hM_14 : M_3 (μ 8) = cC ca 60 pa := (fr_6 _ (hμ.ne (i := 8) (j := 1) (by decide) (by decide) (by decide)) (hμ.ne (i := 8) (j := 3) (by decide) (by decide) (by decide))).trans hM8
      refine g_st (st' := [.int (iI (cwC g i v))]) rfl ?_
      refine g_goto X (n := 32) dX6_alone_27 (by decide) ?_
      exact g_iret X hret ⟨Nat.le_of_ble_eq_true rfl, Nat.le_of_ble_eq_true rfl⟩ dX6_alone_32 ⟨by rw [anAlone, if_pos h_1, if_pos h_2], rfl, ⟨q, _, _, _, rfl, rfl, hM_8, hM_4, hM_9, hM_5, hM_10, hM_11, hM_12, hM_13, hM_14⟩, (fun b hb => (fr_6 b (hb 1 (by decide)) (hb 3 (by decide))))⟩
  · refine g_iconst X (z := -1) dX6_alone_8 rfl ?_
    exact g_iret X hret ⟨Nat.le_of_ble_eq_true rfl, Nat.le_of_ble_eq_true rfl⟩ dX6_alone_9 ⟨by rw [anAlone, if_neg h_1], rfl, ⟨q, _, _, _, rfl, rfl, hMo, hMs, hM2, hM3, hM4, hM5, hM6, hM7, hM8⟩, (fun b hb => rfl)⟩
set_option maxRecDepth 100000 in
set_option maxHeartbeats 4000000 in
theorem ct_X6_bestStride (l : Launch) (μ : Nat → Nat) (q g : Int → Int) (sp tr be sa iz rd pa : Int → Int) (i a b0 : Int) : Ct l yX6_bestStride cX6_bestStride 8 (some .int) 7 0 0 (fun ca av L M => av = [.ref (μ 0), .int (iI i), .int (iI a), .int (iI b0)] ∧ MuOk μ L ∧ M (μ 0) = oMd μ q ∧ M (μ 1) = cI ca 110 g ∧ M (μ 2) = cI ca 110 sp ∧ M (μ 3) = cI ca 110 tr ∧ M (μ 4) = cI ca 660 be ∧ M (μ 5) = cI ca 220 sa ∧ M (μ 6) = cZ ca 2 iz ∧ M (μ 7) = cI ca 33 rd ∧ M (μ 8) = cC ca 60 pa ∧ Inv g ∧ (0 ≤ q 0 ∧ q 0 ≤ 60) ∧ (0 ≤ q 1 ∧ q 1 ≤ 6) ∧ R32 i ∧ R32 a ∧ R32 b0) (fun ca av L M r L1 M1 => r = some (.int (iI (anBest (g, be, sa, iz, pa, q 0, q 1) i a b0))) ∧ L = L1 ∧ Md ca M1 μ ((g, be, sa, iz, pa, q 0, q 1)) ∧ ∀ b, (∀ i, i < 9 → b ≠ μ i) → M1 b = M b) := by
  refine Ct_of (own := RX6) (by decide) rfl (by rintro _ _ _ _ ⟨rfl, _⟩; exact Nat.le_of_ble_eq_true rfl) ?_
  rintro p e s m args below meth c D ca A av L M ⟨rfl, hμ, hMo, hMs, hM2, hM3, hM4, hM5, hM6, hM7, hM8, hI, hq0, hq1, hi, ha, hb0⟩ X hret hname
  refine g_lv (lv' := [(0, .ref (μ 0)), (1, .int (iI i)), (2, .int (iI a)), (3, .int (iI b0))]) [0, 1, 2, 3] rfl ?_
  generalize hQ : MQ below _ args s _ _ A = Q
  obtain ⟨⟨i00, i01⟩, ⟨i10, i11⟩, ⟨i20, i21⟩, ⟨i30, i31⟩, ⟨i40, i41⟩, i50, i51⟩ := id hI.1
  have lp : ∀ (n : Nat) (k : Nat) (x z y : Int) (M1 : Mem) (t : Int → Int) (hin : isStr g i) (hab : (0 ≤ a ∧ a ≤ 1023) ∧ (a ≤ b0 ∧ b0 ≤ 1023) ∧ b0 ≤ a + 63) (hy : y = a + k) (hyb : y ≤ b0 + 1) (hx : x = (bsF g i a k).1) (hz : z = (bsF g i a k).2) (hzr : R32 z) (n0 : M1 (μ 0) = .inr (6, [.ref (μ 1), .ref (μ 2), .ref (μ 3), .ref (μ 4), .ref (μ 5), .ref (μ 6), .ref (μ 7), .ref (μ 8), .int (iI (q 0)), .int (iI (q 1)), .int (iI (q 2)), .int (iI (q 3))])) (n1 : M1 (μ 1) = cI ca 110 g) (n2 : M1 (μ 2) = cI ca 110 sp) (n3 : M1 (μ 3) = cI ca 110 t) (n4 : M1 (μ 4) = cI ca 660 be) (n5 : M1 (μ 5) = cI ca 220 sa) (n6 : M1 (μ 6) = cZ ca 2 iz) (n7 : M1 (μ 7) = cI ca 33 rd) (n8 : M1 (μ 8) = cC ca 60 pa) (hfr : ∀ b, b ≠ μ 1 → b ≠ μ 3 → M1 b = M b) (hm : b0 + 1 - y < (n : Int)), G p l e (Rm 7 0 0) s m args below meth c D A 8 Q 0 0 L M1 53 [(0, .ref (μ 0)), (1, .int (iI i)), (2, .int (iI a)), (3, .int (iI b0)), (4, .int (iI x)), (5, .int (iI z)), (6, .int (iI y))] [] := by
    intro n
    induction n with
    | zero =>
      intro k x z y M1 t hin hab hy hyb hx hz hzr n0 n1 n2 n3 n4 n5 n6 n7 n8 hfr hm
      exfalso; omega
    | succ n ih =>
      intro k x z y M1 t hin hab hy hyb hx hz hzr n0 n1 n2 n3 n4 n5 n6 n7 n8 hfr hm
      have cwr : R32 (cwC g i y) := by have := ro_rng (g := bgaG (cwG g i y)) 20000; unfold cwC; exact ⟨by omega, by omega⟩
      refine g_iload X 6 rfl dX6_bestStride_53 rfl ?_
      refine g_iload_n X 3 rfl dX6_bestStride_55 rfl ?_
      refine g_icmp_gt X ⟨by omega, by omega⟩ hb0 (tgt := 106) dX6_bestStride_56 (by decide) rfl (fun h_1 => ?_) (fun h_1 => ?_)
      · refine g_iload X 4 rfl dX6_bestStride_106 rfl ?_
        subst hQ
        have hk2 : (b0 + 1 - a).toNat = k := by omega
        exact g_iret X hret ⟨Nat.le_of_ble_eq_true rfl, Nat.le_of_ble_eq_true rfl⟩ dX6_bestStride_108 ⟨by rw [anBest, if_pos hin, if_pos hab, hk2, hx], rfl, ⟨q, _, _, _, rfl, rfl, n0, n1, n2, n3, n4, n5, n6, n7, n8⟩, (fun b hb => (hfr b (hb 1 (by decide)) (hb 3 (by decide))))⟩
      · refine g_aload_n X 0 rfl dX6_bestStride_59 rfl ?_
        refine g_iload_n X 1 rfl dX6_bestStride_60 rfl ?_
        refine g_iload X 6 rfl dX6_bestStride_61 rfl ?_
        refine g_callV X (ct_X6_cyclesWith l μ q g t i y) (As := [.int (iI i), .int (iI y)]) (rest := []) cl_X6 rfl ca_X6_cyclesWith rfl wm_X6_151 wi_X6_cyclesWith ws_X6_cyclesWith wc_X6_cyclesWith w0_X6 ⟨by decide, by decide⟩ (hμ.mem 0 (by decide)) n0 (by decide) ⟨by decide, by decide⟩ rfl dX6_bestStride_63 rfl ⟨rfl, hμ, n0, n1, n3, hI, by omega, by omega, by omega⟩ (fun r1 L1 M_2 hq => ?_)
        obtain ⟨rfl, rfl, hM_3, ⟨t_6, hM_4⟩, fr_5⟩ := hq
        have hM_7 : M_2 (μ 0) = .inr (6, [.ref (μ 1), .ref (μ 2), .ref (μ 3), .ref (μ 4), .ref (μ 5), .ref (μ 6), .ref (μ 7), .ref (μ 8), .int (iI (q 0)), .int (iI (q 1)), .int (iI (q 2)), .int (iI (q 3))]) := (fr_5 _ (hμ.ne (i := 0) (j := 1) (by decide) (by decide) (by decide)) (hμ.ne (i := 0) (j := 3) (by decide) (by decide) (by decide))).trans n0
        have hM_8 : M_2 (μ 2) = cI ca 110 sp := (fr_5 _ (hμ.ne (i := 2) (j := 1) (by decide) (by decide) (by decide)) (hμ.ne (i := 2) (j := 3) (by decide) (by decide) (by decide))).trans n2
        have hM_9 : M_2 (μ 4) = cI ca 660 be := (fr_5 _ (hμ.ne (i := 4) (j := 1) (by decide) (by decide) (by decide)) (hμ.ne (i := 4) (j := 3) (by decide) (by decide) (by decide))).trans n4
        have hM_10 : M_2 (μ 5) = cI ca 220 sa := (fr_5 _ (hμ.ne (i := 5) (j := 1) (by decide) (by decide) (by decide)) (hμ.ne (i := 5) (j := 3) (by decide) (by decide) (by decide))).trans n5
        have hM_11 : M_2 (μ 6) = cZ ca 2 iz := (fr_5 _ (hμ.ne (i := 6) (j := 1) (by decide) (by decide) (by decide)) (hμ.ne (i := 6) (j := 3) (by decide) (by decide) (by decide))).trans n6
        have hM_12 : M_2 (μ 7) = cI ca 33 rd := (fr_5 _ (hμ.ne (i := 7) (j := 1) (by decide) (by decide) (by decide)) (hμ.ne (i := 7) (j := 3) (by decide) (by decide) (by decide))).trans n7
        have hM_13 : M_2 (μ 8) = cC ca 60 pa := (fr_5 _ (hμ.ne (i := 8) (j := 1) (by decide) (by decide) (by decide)) (hμ.ne (i := 8) (j := 3) (by decide) (by decide) (by decide))).trans n8
        refine g_st (st' := [.int (iI (cwC g i y))]) rfl ?_
        refine g_istore X (lv' := [(7, .int (iI (cwC g i y))), (0, .ref (μ 0)), (1, .int (iI i)), (2, .int (iI a)), (3, .int (iI b0)), (4, .int (iI x)), (5, .int (iI z)), (6, .int (iI y))]) (by decide) rfl dX6_bestStride_66 rfl ?_
        refine g_iload X 0 rfl dX6_bestStride_68 rfl ?_
        refine g_iload X 6 rfl dX6_bestStride_70 rfl ?_
        refine g_icmp_ge X cwr hzr (tgt := 80) dX6_bestStride_72 (by decide) rfl (fun h_14 => ?_) (fun h_14 => ?_)
        · refine g_iload X 5 rfl dX6_bestStride_80 rfl ?_
          refine g_istore X (lv' := [(4, .int (iI x)), (7, .int (iI (cwC g i y))), (0, .ref (μ 0)), (1, .int (iI i)), (2, .int (iI a)), (3, .int (iI b0)), (5, .int (iI z)), (6, .int (iI y))]) (by decide) rfl dX6_bestStride_82 rfl ?_
          refine g_iload X 1 rfl dX6_bestStride_84 rfl ?_
          refine g_iload X 6 rfl dX6_bestStride_86 rfl ?_
          refine g_icmp_ge X cwr hzr (tgt := 96) dX6_bestStride_88 (by decide) rfl (fun h_15 => ?_) (fun h_15 => ?_)
          · refine g_iload X 6 rfl dX6_bestStride_96 rfl ?_
            refine g_istore X (lv' := [(5, .int (iI z)), (4, .int (iI x)), (7, .int (iI (cwC g i y))), (0, .ref (μ 0)), (1, .int (iI i)), (2, .int (iI a)), (3, .int (iI b0)), (6, .int (iI y))]) (by decide) rfl dX6_bestStride_98 rfl ?_
            refine g_iinc X (lv' := [(6, .int (iI (y + 1))), (5, .int (iI z)), (4, .int (iI x)), (7, .int (iI (cwC g i y))), (0, .ref (μ 0)), (1, .int (iI i)), (2, .int (iI a)), (3, .int (iI b0))]) 7 rfl (by decide) rfl dX6_bestStride_100 rfl ?_
            refine g_goto X (n := 53) dX6_bestStride_103 (by decide) ?_
            refine g_lv (lv' := [(0, .ref (μ 0)), (1, .int (iI i)), (2, .int (iI a)), (3, .int (iI b0)), (4, .int (iI x)), (5, .int (iI z)), (6, .int (iI (y + 1)))]) [4, 5, 6, 7, 2, 1, 0] rfl ?_
            exact ih (k + 1) _ _ _ _ _ hin hab (by omega) (by omega) (by simp only [bsF]; rw [← hx, ← hz, ← hy, if_neg (by omega)]) (by simp only [bsF]; rw [← hz, ← hy, if_neg (by omega)]) (by have := ro_rng (g := bgaG (cwG g i y)) 20000; first | exact hzr | (unfold cwC at *; omega)) hM_7 hM_3 hM_8 hM_4 hM_9 hM_10 hM_11 hM_12 hM_13 (fun b hb1 hb3 => ((fr_5 b hb1 hb3).trans (hfr b hb1 hb3))) (by omega)
          · refine g_iload X 1 rfl dX6_bestStride_91 rfl ?_
            refine g_goto X (n := 98) dX6_bestStride_93 (by decide) ?_
            refine g_istore X (lv' := [(5, .int (iI (cwC g i y))), (4, .int (iI x)), (7, .int (iI (cwC g i y))), (0, .ref (μ 0)), (1, .int (iI i)), (2, .int (iI a)), (3, .int (iI b0)), (6, .int (iI y))]) (by decide) rfl dX6_bestStride_98 rfl ?_
            refine g_iinc X (lv' := [(6, .int (iI (y + 1))), (5, .int (iI (cwC g i y))), (4, .int (iI x)), (7, .int (iI (cwC g i y))), (0, .ref (μ 0)), (1, .int (iI i)), (2, .int (iI a)), (3, .int (iI b0))]) 7 rfl (by decide) rfl dX6_bestStride_100 rfl ?_
            refine g_goto X (n := 53) dX6_bestStride_103 (by decide) ?_
            refine g_lv (lv' := [(0, .ref (μ 0)), (1, .int (iI i)), (2, .int (iI a)), (3, .int (iI b0)), (4, .int (iI x)), (5, .int (iI (cwC g i y))), (6, .int (iI (y + 1)))]) [4, 5, 6, 7, 2, 1, 0] rfl ?_
            exact ih (k + 1) _ _ _ _ _ hin hab (by omega) (by omega) (by simp only [bsF]; rw [← hx, ← hz, ← hy, if_neg (by omega)]) (by simp only [bsF]; rw [← hz, ← hy, if_pos (by omega)]) (by have := ro_rng (g := bgaG (cwG g i y)) 20000; first | exact hzr | (unfold cwC at *; omega)) hM_7 hM_3 hM_8 hM_4 hM_9 hM_10 hM_11 hM_12 hM_13 (fun b hb1 hb3 => ((fr_5 b hb1 hb3).trans (hfr b hb1 hb3))) (by omega)
        · refine g_iload X 7 rfl dX6_bestStride_75 rfl ?_
          refine g_goto X (n := 82) dX6_bestStride_77 (by decide) ?_
          refine g_istore X (lv' := [(4, .int (iI y)), (7, .int (iI (cwC g i y))), (0, .ref (μ 0)), (1, .int (iI i)), (2, .int (iI a)), (3, .int (iI b0)), (5, .int (iI z)), (6, .int (iI y))]) (by decide) rfl dX6_bestStride_82 rfl ?_
          refine g_iload X 1 rfl dX6_bestStride_84 rfl ?_
          refine g_iload X 6 rfl dX6_bestStride_86 rfl ?_
          refine g_icmp_ge X cwr hzr (tgt := 96) dX6_bestStride_88 (by decide) rfl (fun h_16 => ?_) (fun h_16 => ?_)
          · refine g_iload X 6 rfl dX6_bestStride_96 rfl ?_
            refine g_istore X (lv' := [(5, .int (iI z)), (4, .int (iI y)), (7, .int (iI (cwC g i y))), (0, .ref (μ 0)), (1, .int (iI i)), (2, .int (iI a)), (3, .int (iI b0)), (6, .int (iI y))]) (by decide) rfl dX6_bestStride_98 rfl ?_
            refine g_iinc X (lv' := [(6, .int (iI (y + 1))), (5, .int (iI z)), (4, .int (iI y)), (7, .int (iI (cwC g i y))), (0, .ref (μ 0)), (1, .int (iI i)), (2, .int (iI a)), (3, .int (iI b0))]) 7 rfl (by decide) rfl dX6_bestStride_100 rfl ?_
            refine g_goto X (n := 53) dX6_bestStride_103 (by decide) ?_
            refine g_lv (lv' := [(0, .ref (μ 0)), (1, .int (iI i)), (2, .int (iI a)), (3, .int (iI b0)), (4, .int (iI y)), (5, .int (iI z)), (6, .int (iI (y + 1)))]) [4, 5, 6, 7, 2, 1, 0] rfl ?_
            exact ih (k + 1) _ _ _ _ _ hin hab (by omega) (by omega) (by simp only [bsF]; rw [← hx, ← hz, ← hy, if_pos (by omega)]) (by simp only [bsF]; rw [← hz, ← hy, if_neg (by omega)]) (by have := ro_rng (g := bgaG (cwG g i y)) 20000; first | exact hzr | (unfold cwC at *; omega)) hM_7 hM_3 hM_8 hM_4 hM_9 hM_10 hM_11 hM_12 hM_13 (fun b hb1 hb3 => ((fr_5 b hb1 hb3).trans (hfr b hb1 hb3))) (by omega)
          · refine g_iload X 1 rfl dX6_bestStride_91 rfl ?_
            refine g_goto X (n := 98) dX6_bestStride_93 (by decide) ?_
            refine g_istore X (lv' := [(5, .int (iI (cwC g i y))), (4, .int (iI y)), (7, .int (iI (cwC g i y))), (0, .ref (μ 0)), (1, .int (iI i)), (2, .int (iI a)), (3, .int (iI b0)), (6, .int (iI y))]) (by decide) rfl dX6_bestStride_98 rfl ?_
            refine g_iinc X (lv' := [(6, .int (iI (y + 1))), (5, .int (iI (cwC g i y))), (4, .int (iI y)), (7, .int (iI (cwC g i y))), (0, .ref (μ 0)), (1, .int (iI i)), (2, .int (iI a)), (3, .int (iI b0))]) 7 rfl (by decide) rfl dX6_bestStride_100 rfl ?_
            refine g_goto X (n := 53) dX6_bestStride_103 (by decide) ?_
            refine g_lv (lv' := [(0, .ref (μ 0)), (1, .int (iI i)), (2, .int (iI a)), (3, .int (iI b0)), (4, .int (iI y)), (5, .int (iI (cwC g i y))), (6, .int (iI (y + 1)))]) [4, 5, 6, 7, 2, 1, 0] rfl ?_
            exact ih (k + 1) _ _ _ _ _ hin hab (by omega) (by omega) (by simp only [bsF]; rw [← hx, ← hz, ← hy, if_pos (by omega)]) (by simp only [bsF]; rw [← hz, ← hy, if_pos (by omega)]) (by have := ro_rng (g := bgaG (cwG g i y)) 20000; first | exact hzr | (unfold cwC at *; omega)) hM_7 hM_3 hM_8 hM_4 hM_9 hM_10 hM_11 hM_12 hM_13 (fun b hb1 hb3 => ((fr_5 b hb1 hb3).trans (hfr b hb1 hb3))) (by omega)
  refine g_aload_n X 0 rfl dX6_bestStride_0 rfl ?_
  refine g_iload_n X 1 rfl dX6_bestStride_1 rfl ?_
  refine g_callV X (ct_X6_isStream l μ q g i) (As := [.int (iI i)]) (rest := []) cl_X6 rfl ca_X6_isStream rfl wm_X6_92 wi_X6_isStream ws_X6_isStream wc_X6_isStream w0_X6 ⟨by decide, by decide⟩ (hμ.mem 0 (by decide)) hMo (by decide) ⟨by decide, by decide⟩ rfl dX6_bestStride_2 rfl ⟨rfl, hμ, hMo, hMs, hi, by omega, by omega⟩ (fun r1 L1 M1 hq => ?_)
  obtain ⟨rfl, rfl, rfl⟩ := hq
  refine g_st (st' := [.int (iI (if 0 ≤ i ∧ i ≤ g 5 - 1 then 1 else 0))]) rfl ?_
  refine g_if_neb X (tgt := 10) dX6_bestStride_5 (by decide) rfl (fun h_17 => ?_) (fun h_17 => ?_)
  · refine g_iload_n X 2 rfl dX6_bestStride_10 rfl ?_
    refine g_iconst X (z := 0) dX6_bestStride_11 rfl ?_
    refine g_sipush X (z := 1023) (by decide +kernel) dX6_bestStride_12 rfl ?_
    refine g_callS X (ct_X6_in l a 0 1023) (As := [.int (iI a), .int (iI 0), .int (iI 1023)]) (rest := []) rfl ca_X6_in rfl wm_X6_36 wt_X6_in wc_X6_in w0_X6 ⟨by decide, by decide⟩ (by decide) ⟨by decide, by decide⟩ rfl dX6_bestStride_15 rfl ⟨rfl, ha, ⟨by decide, by decide⟩, ⟨by decide, by decide⟩⟩ (fun r1 L1 M1 hq => ?_)
    obtain ⟨rfl, rfl, rfl⟩ := hq
    refine g_st (st' := [.int (iI (if 0 ≤ a ∧ a ≤ 1023 then 1 else 0))]) rfl ?_
    refine g_if_eqb X (tgt := 40) dX6_bestStride_18 (by decide) rfl (fun h_18 => ?_) (fun h_18 => ?_)
    · refine g_bipush X (z := -2) (by decide +kernel) dX6_bestStride_40 rfl ?_
      subst hQ
      exact g_iret X hret ⟨Nat.le_of_ble_eq_true rfl, Nat.le_of_ble_eq_true rfl⟩ dX6_bestStride_42 ⟨by rw [anBest, if_pos h_17, if_neg (by omega)], rfl, ⟨q, _, _, _, rfl, rfl, hMo, hMs, hM2, hM3, hM4, hM5, hM6, hM7, hM8⟩, (fun b hb => rfl)⟩
    · refine g_iload_n X 3 rfl dX6_bestStride_21 rfl ?_
      refine g_iload_n X 2 rfl dX6_bestStride_22 rfl ?_
      refine g_sipush X (z := 1023) (by decide +kernel) dX6_bestStride_23 rfl ?_
      refine g_callS X (ct_X6_in l b0 a 1023) (As := [.int (iI b0), .int (iI a), .int (iI 1023)]) (rest := []) rfl ca_X6_in rfl wm_X6_36 wt_X6_in wc_X6_in w0_X6 ⟨by decide, by decide⟩ (by decide) ⟨by decide, by decide⟩ rfl dX6_bestStride_26 rfl ⟨rfl, hb0, ha, ⟨by decide, by decide⟩⟩ (fun r1 L1 M1 hq => ?_)
      obtain ⟨rfl, rfl, rfl⟩ := hq
      refine g_st (st' := [.int (iI (if a ≤ b0 ∧ b0 ≤ 1023 then 1 else 0))]) rfl ?_
      refine g_if_eqb X (tgt := 40) dX6_bestStride_29 (by decide) rfl (fun h_19 => ?_) (fun h_19 => ?_)
      · refine g_bipush X (z := -2) (by decide +kernel) dX6_bestStride_40 rfl ?_
        subst hQ
        exact g_iret X hret ⟨Nat.le_of_ble_eq_true rfl, Nat.le_of_ble_eq_true rfl⟩ dX6_bestStride_42 ⟨by rw [anBest, if_pos h_17, if_neg (by omega)], rfl, ⟨q, _, _, _, rfl, rfl, hMo, hMs, hM2, hM3, hM4, hM5, hM6, hM7, hM8⟩, (fun b hb => rfl)⟩
      · refine g_iload_n X 3 rfl dX6_bestStride_32 rfl ?_
        refine g_iload_n X 2 rfl dX6_bestStride_33 rfl ?_
        refine g_bipush X (z := 63) (by decide +kernel) dX6_bestStride_34 rfl ?_
        refine g_iadd X dX6_bestStride_36 rfl ?_
        refine g_icmp_le X hb0 ⟨by omega, by omega⟩ (tgt := 43) dX6_bestStride_37 (by decide) rfl (fun h_20 => ?_) (fun h_20 => ?_)
        · refine g_iload_n X 2 rfl dX6_bestStride_43 rfl ?_
          refine g_istore X (lv' := [(4, .int (iI a)), (0, .ref (μ 0)), (1, .int (iI i)), (2, .int (iI a)), (3, .int (iI b0))]) (by decide) rfl dX6_bestStride_44 rfl ?_
          refine g_ldc X (z := 1000000) wv_X6_155 (by decide +kernel) dX6_bestStride_46 rfl ?_
          refine g_istore X (lv' := [(5, .int (iI 1000000)), (4, .int (iI a)), (0, .ref (μ 0)), (1, .int (iI i)), (2, .int (iI a)), (3, .int (iI b0))]) (by decide) rfl dX6_bestStride_48 rfl ?_
          refine g_iload_n X 4 rfl dX6_bestStride_50 rfl ?_
          refine g_istore X (lv' := [(6, .int (iI a)), (5, .int (iI 1000000)), (4, .int (iI a)), (0, .ref (μ 0)), (1, .int (iI i)), (2, .int (iI a)), (3, .int (iI b0))]) (by decide) rfl dX6_bestStride_51 rfl ?_
          have hin : isStr g i := h_17
          refine g_lv (lv' := [(0, .ref (μ 0)), (1, .int (iI i)), (2, .int (iI a)), (3, .int (iI b0)), (4, .int (iI a)), (5, .int (iI 1000000)), (6, .int (iI a))]) [3, 4, 5, 6, 2, 1, 0] rfl ?_
          exact lp 70 0 _ _ _ _ _ hin (by omega) (by omega) (by omega) rfl rfl ⟨by decide, by decide⟩ hMo hMs hM2 hM3 hM4 hM5 hM6 hM7 hM8 (fun b hb1 hb3 => rfl) (by omega)
        · refine g_bipush X (z := -2) (by decide +kernel) dX6_bestStride_40 rfl ?_
          subst hQ
          exact g_iret X hret ⟨Nat.le_of_ble_eq_true rfl, Nat.le_of_ble_eq_true rfl⟩ dX6_bestStride_42 ⟨by rw [anBest, if_pos h_17, if_neg (by omega)], rfl, ⟨q, _, _, _, rfl, rfl, hMo, hMs, hM2, hM3, hM4, hM5, hM6, hM7, hM8⟩, (fun b hb => rfl)⟩
  · refine g_iconst X (z := -1) dX6_bestStride_8 rfl ?_
    subst hQ
    exact g_iret X hret ⟨Nat.le_of_ble_eq_true rfl, Nat.le_of_ble_eq_true rfl⟩ dX6_bestStride_9 ⟨by rw [anBest, if_neg h_17], rfl, ⟨q, _, _, _, rfl, rfl, hMo, hMs, hM2, hM3, hM4, hM5, hM6, hM7, hM8⟩, (fun b hb => rfl)⟩
set_option maxRecDepth 100000 in
set_option maxHeartbeats 4000000 in
theorem ct_X6_bestMap (l : Launch) (μ : Nat → Nat) (q g : Int → Int) (sp tr be sa iz rd pa : Int → Int) (w : Int) : Ct l yX6_bestMap cX6_bestMap 6 (some .int) 6 0 0 (fun ca av L M => av = [.ref (μ 0), .int (iI w)] ∧ MuOk μ L ∧ M (μ 0) = oMd μ q ∧ M (μ 1) = cI ca 110 g ∧ M (μ 2) = cI ca 110 sp ∧ M (μ 3) = cI ca 110 tr ∧ M (μ 4) = cI ca 660 be ∧ M (μ 5) = cI ca 220 sa ∧ M (μ 6) = cZ ca 2 iz ∧ M (μ 7) = cI ca 33 rd ∧ M (μ 8) = cC ca 60 pa ∧ Inv g ∧ (0 ≤ q 0 ∧ q 0 ≤ 60) ∧ (0 ≤ q 1 ∧ q 1 ≤ 6) ∧ R32 w) (fun ca av L M r L1 M1 => r = some (.int (iI (anMap (g, be, sa, iz, pa, q 0, q 1) w))) ∧ L = L1 ∧ Md ca M1 μ ((g, be, sa, iz, pa, q 0, q 1)) ∧ ∀ b, (∀ i, i < 9 → b ≠ μ i) → M1 b = M b) := by
  refine Ct_of (own := RX6) (by decide) rfl (by rintro _ _ _ _ ⟨rfl, _⟩; exact Nat.le_of_ble_eq_true rfl) ?_
  rintro p e s m args below meth c D ca A av L M ⟨rfl, hμ, hMo, hMs, hM2, hM3, hM4, hM5, hM6, hM7, hM8, hI, hq0, hq1, hw⟩ X hret hname
  refine g_lv (lv' := [(0, .ref (μ 0)), (1, .int (iI w))]) [0, 1] rfl ?_
  generalize hQ : MQ below _ args s _ _ A = Q
  obtain ⟨⟨i00, i01⟩, ⟨i10, i11⟩, ⟨i20, i21⟩, ⟨i30, i31⟩, ⟨i40, i41⟩, i50, i51⟩ := id hI.1
  have lp : ∀ (n : Nat) (k : Nat) (x z y : Int) (M1 : Mem) (t : Int → Int) (hw2 : 0 ≤ w ∧ w ≤ 1) (hy : y = k) (hyb : y ≤ 3) (hx : x = (bmF g k).1) (hz : z = (bmF g k).2) (hzr : R32 z) (n0 : M1 (μ 0) = .inr (6, [.ref (μ 1), .ref (μ 2), .ref (μ 3), .ref (μ 4), .ref (μ 5), .ref (μ 6), .ref (μ 7), .ref (μ 8), .int (iI (q 0)), .int (iI (q 1)), .int (iI (q 2)), .int (iI (q 3))])) (n1 : M1 (μ 1) = cI ca 110 g) (n2 : M1 (μ 2) = cI ca 110 sp) (n3 : M1 (μ 3) = cI ca 110 t) (n4 : M1 (μ 4) = cI ca 660 be) (n5 : M1 (μ 5) = cI ca 220 sa) (n6 : M1 (μ 6) = cZ ca 2 iz) (n7 : M1 (μ 7) = cI ca 33 rd) (n8 : M1 (μ 8) = cC ca 60 pa) (hfr : ∀ b, b ≠ μ 1 → b ≠ μ 3 → M1 b = M b) (hm : 3 - y < (n : Int)), G p l e (Rm 6 0 0) s m args below meth c D A 6 Q 0 0 L M1 20 [(0, .ref (μ 0)), (1, .int (iI w)), (2, .int (iI x)), (3, .int (iI z)), (4, .int (iI y))] [] := by
    intro n
    induction n with
    | zero =>
      intro k x z y M1 t hw2 hy hyb hx hz hzr n0 n1 n2 n3 n4 n5 n6 n7 n8 hfr hm
      exfalso; omega
    | succ n ih =>
      intro k x z y M1 t hw2 hy hyb hx hz hzr n0 n1 n2 n3 n4 n5 n6 n7 n8 hfr hm
      refine g_iload X 4 rfl dX6_bestMap_20 rfl ?_
      refine g_iconst X (z := 3) dX6_bestMap_22 rfl ?_
      refine g_icmp_ge X ⟨by omega, by omega⟩ ⟨by decide, by decide⟩ (tgt := 84) dX6_bestMap_23 (by decide) rfl (fun h_1 => ?_) (fun h_1 => ?_)
      · refine g_iload_n X 1 rfl dX6_bestMap_84 rfl ?_
        refine g_if_ne X hw (tgt := 92) dX6_bestMap_85 (by decide) rfl (fun h_2 => ?_) (fun h_2 => ?_)
        · refine g_iload_n X 3 rfl dX6_bestMap_92 rfl ?_
          subst hQ
          have hk3 : k = 3 := by omega
          subst hk3
          exact g_iret X hret ⟨Nat.le_of_ble_eq_true rfl, Nat.le_of_ble_eq_true rfl⟩ dX6_bestMap_93 ⟨by rw [anMap, if_pos hw2, if_neg (by omega), hz], rfl, ⟨q, _, _, _, rfl, rfl, n0, n1, n2, n3, n4, n5, n6, n7, n8⟩, (fun b hb => (hfr b (hb 1 (by decide)) (hb 3 (by decide))))⟩
        · refine g_iload_n X 2 rfl dX6_bestMap_88 rfl ?_
          refine g_goto X (n := 93) dX6_bestMap_89 (by decide) ?_
          subst hQ
          have hk3 : k = 3 := by omega
          subst hk3
          exact g_iret X hret ⟨Nat.le_of_ble_eq_true rfl, Nat.le_of_ble_eq_true rfl⟩ dX6_bestMap_93 ⟨by rw [anMap, if_pos hw2, if_pos (by omega), hx], rfl, ⟨q, _, _, _, rfl, rfl, n0, n1, n2, n3, n4, n5, n6, n7, n8⟩, (fun b hb => (hfr b (hb 1 (by decide)) (hb 3 (by decide))))⟩
      · refine g_aload_n X 0 rfl dX6_bestMap_26 rfl ?_
        have ok := mp_ok hI (m := y) (by omega)
        have okI := bga_inv ok.1 ok.2.1
        have ok4 := bga_cyc (up g 2 y)
        refine g_callV X (ct_X6_keepTrial l μ q g t) (As := []) (rest := []) cl_X6 rfl ca_X6_keepTrial rfl wm_X6_138 wi_X6_keepTrial ws_X6_keepTrial wc_X6_keepTrial w0_X6 ⟨by decide, by decide⟩ (hμ.mem 0 (by decide)) n0 (by decide) ⟨by decide, by decide⟩ rfl dX6_bestMap_27 rfl ⟨rfl, hμ, n0, n1, n3⟩ (fun r1 L1 M_3 hq => ?_)
        obtain ⟨rfl, rfl, hM_4, fr_5⟩ := hq
        have hM_6 : M_3 (μ 0) = .inr (6, [.ref (μ 1), .ref (μ 2), .ref (μ 3), .ref (μ 4), .ref (μ 5), .ref (μ 6), .ref (μ 7), .ref (μ 8), .int (iI (q 0)), .int (iI (q 1)), .int (iI (q 2)), .int (iI (q 3))]) := (fr_5 (μ 0) (hμ.ne (i := 0) (j := 3) (by decide) (by decide) (by decide))).trans n0
        have hM_7 : M_3 (μ 1) = cI ca 110 g := (fr_5 (μ 1) (hμ.ne (i := 1) (j := 3) (by decide) (by decide) (by decide))).trans n1
        have hM_8 : M_3 (μ 2) = cI ca 110 sp := (fr_5 (μ 2) (hμ.ne (i := 2) (j := 3) (by decide) (by decide) (by decide))).trans n2
        have hM_9 : M_3 (μ 4) = cI ca 660 be := (fr_5 (μ 4) (hμ.ne (i := 4) (j := 3) (by decide) (by decide) (by decide))).trans n4
        have hM_10 : M_3 (μ 5) = cI ca 220 sa := (fr_5 (μ 5) (hμ.ne (i := 5) (j := 3) (by decide) (by decide) (by decide))).trans n5
        have hM_11 : M_3 (μ 6) = cZ ca 2 iz := (fr_5 (μ 6) (hμ.ne (i := 6) (j := 3) (by decide) (by decide) (by decide))).trans n6
        have hM_12 : M_3 (μ 7) = cI ca 33 rd := (fr_5 (μ 7) (hμ.ne (i := 7) (j := 3) (by decide) (by decide) (by decide))).trans n7
        have hM_13 : M_3 (μ 8) = cC ca 60 pa := (fr_5 (μ 8) (hμ.ne (i := 8) (j := 3) (by decide) (by decide) (by decide))).trans n8
        refine g_st (st' := []) rfl ?_
        refine g_aload_n X 0 rfl dX6_bestMap_30 rfl ?_
        refine g_get X cl_X6 0 (by decide) wf_X6_7 rfl (hμ.mem 0 (by decide)) hM_6 rfl dX6_bestMap_31 rfl ?_
        refine g_iconst X (z := 2) dX6_bestMap_34 rfl ?_
        refine g_iload X 4 rfl dX6_bestMap_35 rfl ?_
        refine g_iast X (hμ.mem 1 (by decide)) hM_7 ⟨by decide, by decide⟩ (by decide) dX6_bestMap_37 rfl (fun M_14 hM_15 fr_16 => ?_)
        obtain ⟨g_17, hg_18⟩ : ∃ x : Int → Int, x = up g 2 y := ⟨_, rfl⟩
        rw [← hg_18] at hM_15
        have hM_19 : M_14 (μ 0) = .inr (6, [.ref (μ 1), .ref (μ 2), .ref (μ 3), .ref (μ 4), .ref (μ 5), .ref (μ 6), .ref (μ 7), .ref (μ 8), .int (iI (q 0)), .int (iI (q 1)), .int (iI (q 2)), .int (iI (q 3))]) := (fr_16 (μ 0) (hμ.ne (i := 0) (j := 1) (by decide) (by decide) (by decide))).trans hM_6
        have hM_20 : M_14 (μ 2) = cI ca 110 sp := (fr_16 (μ 2) (hμ.ne (i := 2) (j := 1) (by decide) (by decide) (by decide))).trans hM_8
        have hM_21 : M_14 (μ 4) = cI ca 660 be := (fr_16 (μ 4) (hμ.ne (i := 4) (j := 1) (by decide) (by decide) (by decide))).trans hM_9
        have hM_22 : M_14 (μ 5) = cI ca 220 sa := (fr_16 (μ 5) (hμ.ne (i := 5) (j := 1) (by decide) (by decide) (by decide))).trans hM_10
        have hM_23 : M_14 (μ 6) = cZ ca 2 iz := (fr_16 (μ 6) (hμ.ne (i := 6) (j := 1) (by decide) (by decide) (by decide))).trans hM_11
        have hM_24 : M_14 (μ 7) = cI ca 33 rd := (fr_16 (μ 7) (hμ.ne (i := 7) (j := 1) (by decide) (by decide) (by decide))).trans hM_12
        have hM_25 : M_14 (μ 8) = cC ca 60 pa := (fr_16 (μ 8) (hμ.ne (i := 8) (j := 1) (by decide) (by decide) (by decide))).trans hM_13
        have hM_26 : M_14 (μ 3) = cI ca 110 g := (fr_16 (μ 3) (hμ.ne (i := 3) (j := 1) (by decide) (by decide) (by decide))).trans hM_4
        refine g_aload_n X 0 rfl dX6_bestMap_38 rfl ?_
        refine g_callV X (ct_X6_beginsAnew l μ q g_17) (As := []) (rest := []) cl_X6 rfl ca_X6_beginsAnew rfl wm_X6_82 wi_X6_beginsAnew ws_X6_beginsAnew wc_X6_beginsAnew w0_X6 ⟨by decide, by decide⟩ (hμ.mem 0 (by decide)) hM_19 (by decide) ⟨by decide, by decide⟩ rfl dX6_bestMap_39 rfl ⟨rfl, hμ, hM_19, hM_15, by rw [hg_18, up_ne _ _ (by decide)]; omega, by rw [hg_18, up_ne _ _ (by decide)]; omega⟩ (fun r1 L1 M_27 hq => ?_)
        obtain ⟨rfl, rfl, hM_28, fr_29⟩ := hq
        have hM_30 : M_27 (μ 0) = .inr (6, [.ref (μ 1), .ref (μ 2), .ref (μ 3), .ref (μ 4), .ref (μ 5), .ref (μ 6), .ref (μ 7), .ref (μ 8), .int (iI (q 0)), .int (iI (q 1)), .int (iI (q 2)), .int (iI (q 3))]) := (fr_29 (μ 0) (hμ.ne (i := 0) (j := 1) (by decide) (by decide) (by decide))).trans hM_19
        have hM_31 : M_27 (μ 2) = cI ca 110 sp := (fr_29 (μ 2) (hμ.ne (i := 2) (j := 1) (by decide) (by decide) (by decide))).trans hM_20
        have hM_32 : M_27 (μ 4) = cI ca 660 be := (fr_29 (μ 4) (hμ.ne (i := 4) (j := 1) (by decide) (by decide) (by decide))).trans hM_21
        have hM_33 : M_27 (μ 5) = cI ca 220 sa := (fr_29 (μ 5) (hμ.ne (i := 5) (j := 1) (by decide) (by decide) (by decide))).trans hM_22
        have hM_34 : M_27 (μ 6) = cZ ca 2 iz := (fr_29 (μ 6) (hμ.ne (i := 6) (j := 1) (by decide) (by decide) (by decide))).trans hM_23
        have hM_35 : M_27 (μ 7) = cI ca 33 rd := (fr_29 (μ 7) (hμ.ne (i := 7) (j := 1) (by decide) (by decide) (by decide))).trans hM_24
        have hM_36 : M_27 (μ 8) = cC ca 60 pa := (fr_29 (μ 8) (hμ.ne (i := 8) (j := 1) (by decide) (by decide) (by decide))).trans hM_25
        have hM_37 : M_27 (μ 3) = cI ca 110 g := (fr_29 (μ 3) (hμ.ne (i := 3) (j := 1) (by decide) (by decide) (by decide))).trans hM_26
        refine g_st (st' := []) rfl ?_
        refine g_aload_n X 0 rfl dX6_bestMap_42 rfl ?_
        have cwr : R32 (roC 20000 (bgaG g_17)) := by have := ro_rng (g := bgaG g_17) 20000; exact ⟨by omega, by omega⟩
        refine g_callV X (ct_X6_runsOut l μ q (bgaG g_17)) (As := []) (rest := []) cl_X6 rfl ca_X6_runsOut rfl wm_X6_141 wi_X6_runsOut ws_X6_runsOut wc_X6_runsOut w0_X6 ⟨by decide, by decide⟩ (hμ.mem 0 (by decide)) hM_30 (by decide) ⟨by decide, by decide⟩ rfl dX6_bestMap_43 rfl ⟨rfl, hμ, hM_30, hM_28, by rw [hg_18]; exact okI, by rw [hg_18]; exact (by omega : bgaG (up g 2 y) 4 ≤ 900000)⟩ (fun r1 L1 M_38 hq => ?_)
        obtain ⟨rfl, rfl, hM_39, fr_40⟩ := hq
        have hM_41 : M_38 (μ 0) = .inr (6, [.ref (μ 1), .ref (μ 2), .ref (μ 3), .ref (μ 4), .ref (μ 5), .ref (μ 6), .ref (μ 7), .ref (μ 8), .int (iI (q 0)), .int (iI (q 1)), .int (iI (q 2)), .int (iI (q 3))]) := (fr_40 (μ 0) (hμ.ne (i := 0) (j := 1) (by decide) (by decide) (by decide))).trans hM_30
        have hM_42 : M_38 (μ 2) = cI ca 110 sp := (fr_40 (μ 2) (hμ.ne (i := 2) (j := 1) (by decide) (by decide) (by decide))).trans hM_31
        have hM_43 : M_38 (μ 4) = cI ca 660 be := (fr_40 (μ 4) (hμ.ne (i := 4) (j := 1) (by decide) (by decide) (by decide))).trans hM_32
        have hM_44 : M_38 (μ 5) = cI ca 220 sa := (fr_40 (μ 5) (hμ.ne (i := 5) (j := 1) (by decide) (by decide) (by decide))).trans hM_33
        have hM_45 : M_38 (μ 6) = cZ ca 2 iz := (fr_40 (μ 6) (hμ.ne (i := 6) (j := 1) (by decide) (by decide) (by decide))).trans hM_34
        have hM_46 : M_38 (μ 7) = cI ca 33 rd := (fr_40 (μ 7) (hμ.ne (i := 7) (j := 1) (by decide) (by decide) (by decide))).trans hM_35
        have hM_47 : M_38 (μ 8) = cC ca 60 pa := (fr_40 (μ 8) (hμ.ne (i := 8) (j := 1) (by decide) (by decide) (by decide))).trans hM_36
        have hM_48 : M_38 (μ 3) = cI ca 110 g := (fr_40 (μ 3) (hμ.ne (i := 3) (j := 1) (by decide) (by decide) (by decide))).trans hM_37
        refine g_st (st' := [.int (iI (roC 20000 (bgaG g_17)))]) rfl ?_
        refine g_istore X (lv' := [(5, .int (iI (roC 20000 (bgaG g_17)))), (0, .ref (μ 0)), (1, .int (iI w)), (2, .int (iI x)), (3, .int (iI z)), (4, .int (iI y))]) (by decide) rfl dX6_bestMap_46 rfl ?_
        refine g_aload_n X 1 rfl dX6_bestMap_48 rfl ?_
        refine g_callV X (ct_X6_putBack l μ q (roS 20000 (bgaG g_17)) g) (As := []) (rest := []) cl_X6 rfl ca_X6_putBack rfl wm_X6_144 wi_X6_putBack ws_X6_putBack wc_X6_putBack w0_X6 ⟨by decide, by decide⟩ (hμ.mem 0 (by decide)) hM_41 (by decide) ⟨by decide, by decide⟩ rfl dX6_bestMap_49 rfl ⟨rfl, hμ, hM_41, hM_39, hM_48⟩ (fun r1 L1 M_49 hq => ?_)
        obtain ⟨rfl, rfl, hM_50, fr_51⟩ := hq
        have hM_52 : M_49 (μ 0) = .inr (6, [.ref (μ 1), .ref (μ 2), .ref (μ 3), .ref (μ 4), .ref (μ 5), .ref (μ 6), .ref (μ 7), .ref (μ 8), .int (iI (q 0)), .int (iI (q 1)), .int (iI (q 2)), .int (iI (q 3))]) := (fr_51 (μ 0) (hμ.ne (i := 0) (j := 1) (by decide) (by decide) (by decide))).trans hM_41
        have hM_53 : M_49 (μ 2) = cI ca 110 sp := (fr_51 (μ 2) (hμ.ne (i := 2) (j := 1) (by decide) (by decide) (by decide))).trans hM_42
        have hM_54 : M_49 (μ 4) = cI ca 660 be := (fr_51 (μ 4) (hμ.ne (i := 4) (j := 1) (by decide) (by decide) (by decide))).trans hM_43
        have hM_55 : M_49 (μ 5) = cI ca 220 sa := (fr_51 (μ 5) (hμ.ne (i := 5) (j := 1) (by decide) (by decide) (by decide))).trans hM_44
        have hM_56 : M_49 (μ 6) = cZ ca 2 iz := (fr_51 (μ 6) (hμ.ne (i := 6) (j := 1) (by decide) (by decide) (by decide))).trans hM_45
        have hM_57 : M_49 (μ 7) = cI ca 33 rd := (fr_51 (μ 7) (hμ.ne (i := 7) (j := 1) (by decide) (by decide) (by decide))).trans hM_46
        have hM_58 : M_49 (μ 8) = cC ca 60 pa := (fr_51 (μ 8) (hμ.ne (i := 8) (j := 1) (by decide) (by decide) (by decide))).trans hM_47
        have hM_59 : M_49 (μ 3) = cI ca 110 g := (fr_51 (μ 3) (hμ.ne (i := 3) (j := 1) (by decide) (by decide) (by decide))).trans hM_48
        refine g_st (st' := []) rfl ?_
        refine g_iload X 0 rfl dX6_bestMap_52 rfl ?_
        refine g_iload_n X 4 rfl dX6_bestMap_54 rfl ?_
        refine g_icmp_ge X cwr hzr (tgt := 63) dX6_bestMap_55 (by decide) rfl (fun h_60 => ?_) (fun h_60 => ?_)
        · refine g_iload_n X 3 rfl dX6_bestMap_63 rfl ?_
          refine g_istore_n X (lv' := [(2, .int (iI x)), (5, .int (iI (roC 20000 (bgaG g_17)))), (0, .ref (μ 0)), (1, .int (iI w)), (3, .int (iI z)), (4, .int (iI y))]) (by decide) rfl dX6_bestMap_64 rfl ?_
          refine g_iload X 1 rfl dX6_bestMap_65 rfl ?_
          refine g_iload_n X 4 rfl dX6_bestMap_67 rfl ?_
          refine g_icmp_ge X cwr hzr (tgt := 76) dX6_bestMap_68 (by decide) rfl (fun h_61 => ?_) (fun h_61 => ?_)
          · refine g_iload_n X 4 rfl dX6_bestMap_76 rfl ?_
            refine g_istore_n X (lv' := [(3, .int (iI z)), (2, .int (iI x)), (5, .int (iI (roC 20000 (bgaG g_17)))), (0, .ref (μ 0)), (1, .int (iI w)), (4, .int (iI y))]) (by decide) rfl dX6_bestMap_77 rfl ?_
            refine g_iinc X (lv' := [(4, .int (iI (y + 1))), (3, .int (iI z)), (2, .int (iI x)), (5, .int (iI (roC 20000 (bgaG g_17)))), (0, .ref (μ 0)), (1, .int (iI w))]) 5 rfl (by decide) rfl dX6_bestMap_78 rfl ?_
            refine g_goto X (n := 20) dX6_bestMap_81 (by decide) ?_
            refine g_lv (lv' := [(0, .ref (μ 0)), (1, .int (iI w)), (2, .int (iI x)), (3, .int (iI z)), (4, .int (iI (y + 1)))]) [4, 5, 2, 1, 0] rfl ?_
            subst hg_18
            exact ih (k + 1) _ _ _ _ _ hw2 (by omega) (by omega) (by simp only [bmF]; rw [← hx, ← hz, ← hy]; exact (if_neg (show ¬ mpC g y < z from by unfold mpC; omega)).symm) (by simp only [bmF]; rw [← hz, ← hy]; exact (if_neg (show ¬ mpC g y < z from by unfold mpC; omega)).symm) (by first | exact hzr | exact cwr) hM_52 hM_50 hM_53 hM_59 hM_54 hM_55 hM_56 hM_57 hM_58 (fun b hb1 hb3 => ((fr_51 b hb1).trans ((fr_40 b hb1).trans ((fr_29 b hb1).trans ((fr_16 b hb1).trans ((fr_5 b hb3).trans (hfr b hb1 hb3))))))) (by omega)
          · refine g_iload X 1 rfl dX6_bestMap_71 rfl ?_
            refine g_goto X (n := 77) dX6_bestMap_73 (by decide) ?_
            refine g_istore_n X (lv' := [(3, .int (iI (roC 20000 (bgaG g_17)))), (2, .int (iI x)), (5, .int (iI (roC 20000 (bgaG g_17)))), (0, .ref (μ 0)), (1, .int (iI w)), (4, .int (iI y))]) (by decide) rfl dX6_bestMap_77 rfl ?_
            refine g_iinc X (lv' := [(4, .int (iI (y + 1))), (3, .int (iI (roC 20000 (bgaG g_17)))), (2, .int (iI x)), (5, .int (iI (roC 20000 (bgaG g_17)))), (0, .ref (μ 0)), (1, .int (iI w))]) 5 rfl (by decide) rfl dX6_bestMap_78 rfl ?_
            refine g_goto X (n := 20) dX6_bestMap_81 (by decide) ?_
            refine g_lv (lv' := [(0, .ref (μ 0)), (1, .int (iI w)), (2, .int (iI x)), (3, .int (iI (roC 20000 (bgaG g_17)))), (4, .int (iI (y + 1)))]) [4, 5, 2, 1, 0] rfl ?_
            subst hg_18
            exact ih (k + 1) _ _ _ _ _ hw2 (by omega) (by omega) (by simp only [bmF]; rw [← hx, ← hz, ← hy]; exact (if_neg (show ¬ mpC g y < z from by unfold mpC; omega)).symm) (by simp only [bmF]; rw [← hz, ← hy]; exact (if_pos (show mpC g y < z from by unfold mpC; omega)).symm) (by first | exact hzr | exact cwr) hM_52 hM_50 hM_53 hM_59 hM_54 hM_55 hM_56 hM_57 hM_58 (fun b hb1 hb3 => ((fr_51 b hb1).trans ((fr_40 b hb1).trans ((fr_29 b hb1).trans ((fr_16 b hb1).trans ((fr_5 b hb3).trans (hfr b hb1 hb3))))))) (by omega)
        · refine g_iload X 5 rfl dX6_bestMap_58 rfl ?_
          refine g_goto X (n := 64) dX6_bestMap_60 (by decide) ?_
          refine g_istore_n X (lv' := [(2, .int (iI y)), (5, .int (iI (roC 20000 (bgaG g_17)))), (0, .ref (μ 0)), (1, .int (iI w)), (3, .int (iI z)), (4, .int (iI y))]) (by decide) rfl dX6_bestMap_64 rfl ?_
          refine g_iload X 1 rfl dX6_bestMap_65 rfl ?_
          refine g_iload_n X 4 rfl dX6_bestMap_67 rfl ?_
          refine g_icmp_ge X cwr hzr (tgt := 76) dX6_bestMap_68 (by decide) rfl (fun h_62 => ?_) (fun h_62 => ?_)
          · refine g_iload_n X 4 rfl dX6_bestMap_76 rfl ?_
            refine g_istore_n X (lv' := [(3, .int (iI z)), (2, .int (iI y)), (5, .int (iI (roC 20000 (bgaG g_17)))), (0, .ref (μ 0)), (1, .int (iI w)), (4, .int (iI y))]) (by decide) rfl dX6_bestMap_77 rfl ?_
            refine g_iinc X (lv' := [(4, .int (iI (y + 1))), (3, .int (iI z)), (2, .int (iI y)), (5, .int (iI (roC 20000 (bgaG g_17)))), (0, .ref (μ 0)), (1, .int (iI w))]) 5 rfl (by decide) rfl dX6_bestMap_78 rfl ?_
            refine g_goto X (n := 20) dX6_bestMap_81 (by decide) ?_
            refine g_lv (lv' := [(0, .ref (μ 0)), (1, .int (iI w)), (2, .int (iI y)), (3, .int (iI z)), (4, .int (iI (y + 1)))]) [4, 5, 2, 1, 0] rfl ?_
            subst hg_18
            exact ih (k + 1) _ _ _ _ _ hw2 (by omega) (by omega) (by simp only [bmF]; rw [← hx, ← hz, ← hy]; exact (if_pos (show mpC g y < z from by unfold mpC; omega)).symm) (by simp only [bmF]; rw [← hz, ← hy]; exact (if_neg (show ¬ mpC g y < z from by unfold mpC; omega)).symm) (by first | exact hzr | exact cwr) hM_52 hM_50 hM_53 hM_59 hM_54 hM_55 hM_56 hM_57 hM_58 (fun b hb1 hb3 => ((fr_51 b hb1).trans ((fr_40 b hb1).trans ((fr_29 b hb1).trans ((fr_16 b hb1).trans ((fr_5 b hb3).trans (hfr b hb1 hb3))))))) (by omega)
          · refine g_iload X 1 rfl dX6_bestMap_71 rfl ?_
            refine g_goto X (n := 77) dX6_bestMap_73 (by decide) ?_
            refine g_istore_n X (lv' := [(3, .int (iI (roC 20000 (bgaG g_17)))), (2, .int (iI y)), (5, .int (iI (roC 20000 (bgaG g_17)))), (0, .ref (μ 0)), (1, .int (iI w)), (4, .int (iI y))]) (by decide) rfl dX6_bestMap_77 rfl ?_
            refine g_iinc X (lv' := [(4, .int (iI (y + 1))), (3, .int (iI (roC 20000 (bgaG g_17)))), (2, .int (iI y)), (5, .int (iI (roC 20000 (bgaG g_17)))), (0, .ref (μ 0)), (1, .int (iI w))]) 5 rfl (by decide) rfl dX6_bestMap_78 rfl ?_
            refine g_goto X (n := 20) dX6_bestMap_81 (by decide) ?_
            refine g_lv (lv' := [(0, .ref (μ 0)), (1, .int (iI w)), (2, .int (iI y)), (3, .int (iI (roC 20000 (bgaG g_17)))), (4, .int (iI (y + 1)))]) [4, 5, 2, 1, 0] rfl ?_
            subst hg_18
            exact ih (k + 1) _ _ _ _ _ hw2 (by omega) (by omega) (by simp only [bmF]; rw [← hx, ← hz, ← hy]; exact (if_pos (show mpC g y < z from by unfold mpC; omega)).symm) (by simp only [bmF]; rw [← hz, ← hy]; exact (if_pos (show mpC g y < z from by unfold mpC; omega)).symm) (by first | exact hzr | exact cwr) hM_52 hM_50 hM_53 hM_59 hM_54 hM_55 hM_56 hM_57 hM_58 (fun b hb1 hb3 => ((fr_51 b hb1).trans ((fr_40 b hb1).trans ((fr_29 b hb1).trans ((fr_16 b hb1).trans ((fr_5 b hb3).trans (hfr b hb1 hb3))))))) (by omega)
  refine g_iload_n X 1 rfl dX6_bestMap_0 rfl ?_
  refine g_iconst X (z := 0) dX6_bestMap_1 rfl ?_
  refine g_iconst X (z := 1) dX6_bestMap_2 rfl ?_
  refine g_callS X (ct_X6_in l w 0 1) (As := [.int (iI w), .int (iI 0), .int (iI 1)]) (rest := []) rfl ca_X6_in rfl wm_X6_36 wt_X6_in wc_X6_in w0_X6 ⟨by decide, by decide⟩ (by decide) ⟨by decide, by decide⟩ rfl dX6_bestMap_3 rfl ⟨rfl, hw, ⟨by decide, by decide⟩, ⟨by decide, by decide⟩⟩ (fun r1 L1 M1 hq => ?_)
  obtain ⟨rfl, rfl, rfl⟩ := hq
  refine g_st (st' := [.int (iI (if 0 ≤ w ∧ w ≤ 1 then 1 else 0))]) rfl ?_
  refine g_if_neb X (tgt := 12) dX6_bestMap_6 (by decide) rfl (fun h_63 => ?_) (fun h_63 => ?_)
  · refine g_iconst X (z := 0) dX6_bestMap_12 rfl ?_
    refine g_istore_n X (lv' := [(2, .int (iI 0)), (0, .ref (μ 0)), (1, .int (iI w))]) (by decide) rfl dX6_bestMap_13 rfl ?_
    refine g_ldc X (z := 1000000) wv_X6_155 (by decide +kernel) dX6_bestMap_14 rfl ?_
    refine g_istore_n X (lv' := [(3, .int (iI 1000000)), (2, .int (iI 0)), (0, .ref (μ 0)), (1, .int (iI w))]) (by decide) rfl dX6_bestMap_16 rfl ?_
    refine g_iconst X (z := 0) dX6_bestMap_17 rfl ?_
    refine g_istore X (lv' := [(4, .int (iI 0)), (3, .int (iI 1000000)), (2, .int (iI 0)), (0, .ref (μ 0)), (1, .int (iI w))]) (by decide) rfl dX6_bestMap_18 rfl ?_
    refine g_lv (lv' := [(0, .ref (μ 0)), (1, .int (iI w)), (2, .int (iI 0)), (3, .int (iI 1000000)), (4, .int (iI 0))]) [3, 4, 2, 1, 0] rfl ?_
    exact lp 7 0 0 1000000 0 _ _ (by omega) (by omega) (by omega) rfl rfl ⟨by decide, by decide⟩ hMo hMs hM2 hM3 hM4 hM5 hM6 hM7 hM8 (fun b hb1 hb3 => rfl) (by omega)
  · refine g_bipush X (z := -2) (by decide +kernel) dX6_bestMap_9 rfl ?_
    subst hQ
    exact g_iret X hret ⟨Nat.le_of_ble_eq_true rfl, Nat.le_of_ble_eq_true rfl⟩ dX6_bestMap_11 ⟨by rw [anMap, if_neg h_63], rfl, ⟨q, _, _, _, rfl, rfl, hMo, hMs, hM2, hM3, hM4, hM5, hM6, hM7, hM8⟩, (fun b hb => rfl)⟩
set_option maxRecDepth 100000 in
set_option maxHeartbeats 4000000 in
theorem ct_X6_ofStreams (l : Launch) (μ : Nat → Nat) (q g : Int → Int) (w : Int) : Ct l yX6_ofStreams cX6_ofStreams 5 (some .int) 1 0 0 (fun ca av L M => av = [.ref (μ 0), .int (iI w)] ∧ MuOk μ L ∧ M (μ 0) = oMd μ q ∧ M (μ 1) = cI ca 110 g ∧ R32 w ∧ 0 ≤ g 5 ∧ g 5 ≤ 4) (fun ca av L M r L1 M1 => r = some (.int (iI (ofG g w))) ∧ L = L1 ∧ M = M1) := by
  refine Ct_of (own := RX6) (by decide) rfl (by rintro _ _ _ _ ⟨rfl, _⟩; exact Nat.le_of_ble_eq_true rfl) ?_
  rintro p e s m args below meth c D ca A av L M ⟨rfl, hμ, hMo, hMs, hw, h50, h51⟩ X hret hname
  refine g_lv (lv' := [(0, .ref (μ 0)), (1, .int (iI w))]) [0, 1] rfl ?_
  generalize hQ : MQ below _ args s _ _ A = Q
  have lp : ∀ (n : Nat) (k : Nat) (z y : Int) (hy : y = k) (hk : y ≤ g 5) (hz : z = ofS g w k) (hm : g 5 - y < (n : Int)), G p l e (Rm 1 0 0) s m args below meth c D A 5 Q 0 0 L M 4 [(0, .ref (μ 0)), (1, .int (iI w)), (2, .int (iI z)), (3, .int (iI y))] [] := by
    intro n
    induction n with
    | zero =>
      intro k z y hy hk hz hm
      exfalso; omega
    | succ n ih =>
      intro k z y hy hk hz hm
      refine g_iload_n X 3 rfl dX6_ofStreams_4 rfl ?_
      refine g_aload_n X 0 rfl dX6_ofStreams_5 rfl ?_
      refine g_get X cl_X6 0 (by decide) wf_X6_7 rfl (hμ.mem 0 (by decide)) hMo rfl dX6_ofStreams_6 rfl ?_
      refine g_iconst X (z := 5) dX6_ofStreams_9 rfl ?_
      refine g_iald X (hμ.mem 1 (by decide)) hMs ⟨by decide, by decide⟩ (by decide) dX6_ofStreams_10 rfl ?_
      refine g_icmp_ge X ⟨by omega, by omega⟩ ⟨by omega, by omega⟩ (tgt := 86) dX6_ofStreams_11 (by decide) rfl (fun h_1 => ?_) (fun h_1 => ?_)
      · refine g_iload_n X 2 rfl dX6_ofStreams_86 rfl ?_
        subst hQ
        exact g_iret X hret ⟨Nat.le_of_ble_eq_true rfl, Nat.le_of_ble_eq_true rfl⟩ dX6_ofStreams_87 ⟨by rw [hz, ofG, show (g 5).toNat = k from by omega], rfl, rfl⟩
      · refine g_iload_n X 3 rfl dX6_ofStreams_14 rfl ?_
        refine g_callS X (ct_X6_m l y) (As := [.int (iI y)]) (rest := []) rfl ca_X6_m rfl wm_X6_52 wt_X6_m wc_X6_m w0_X6 ⟨by decide, by decide⟩ (by decide) ⟨by decide, by decide⟩ rfl dX6_ofStreams_15 rfl ⟨rfl, trivial⟩ (fun r1 L1 M1 hq => ?_)
        obtain ⟨rfl, rfl, rfl⟩ := hq
        refine g_st (st' := [.int (iI (70 + 10 * y))]) rfl ?_
        refine g_istore X (lv' := [(4, .int (iI (70 + 10 * y))), (0, .ref (μ 0)), (1, .int (iI w)), (2, .int (iI z)), (3, .int (iI y))]) (by decide) rfl dX6_ofStreams_18 rfl ?_
        refine g_iload_n X 3 rfl dX6_ofStreams_20 rfl ?_
        refine g_iload_n X 2 rfl dX6_ofStreams_21 rfl ?_
        refine g_bipush X (z := 7) (by decide +kernel) dX6_ofStreams_22 rfl ?_
        refine g_icmp_ne X hw ⟨by decide, by decide⟩ (tgt := 49) dX6_ofStreams_24 (by decide) rfl (fun h_2 => ?_) (fun h_2 => ?_)
        · refine g_iload_n X 2 rfl dX6_ofStreams_49 rfl ?_
          refine g_bipush X (z := 8) (by decide +kernel) dX6_ofStreams_50 rfl ?_
          refine g_icmp_ne X hw ⟨by decide, by decide⟩ (tgt := 68) dX6_ofStreams_52 (by decide) rfl (fun h_3 => ?_) (fun h_3 => ?_)
          · refine g_aload_n X 1 rfl dX6_ofStreams_68 rfl ?_
            refine g_get X cl_X6 0 (by decide) wf_X6_7 rfl (hμ.mem 0 (by decide)) hMo rfl dX6_ofStreams_69 rfl ?_
            refine g_iload X 0 rfl dX6_ofStreams_72 rfl ?_
            refine g_bipush X (z := 7) (by decide +kernel) dX6_ofStreams_74 rfl ?_
            refine g_iadd X dX6_ofStreams_76 rfl ?_
            refine g_iald X (hμ.mem 1 (by decide)) hMs ⟨by omega, by omega⟩ (by decide) dX6_ofStreams_77 rfl ?_
            refine g_iadd X dX6_ofStreams_78 rfl ?_
            refine g_istore_n X (lv' := [(2, .int (iI (z + g ((70 + 10 * y) + 7)))), (4, .int (iI (70 + 10 * y))), (0, .ref (μ 0)), (1, .int (iI w)), (3, .int (iI y))]) (by decide) rfl dX6_ofStreams_79 rfl ?_
            refine g_iinc X (lv' := [(3, .int (iI (y + 1))), (2, .int (iI (z + g ((70 + 10 * y) + 7)))), (4, .int (iI (70 + 10 * y))), (0, .ref (μ 0)), (1, .int (iI w))]) 4 rfl (by decide) rfl dX6_ofStreams_80 rfl ?_
            refine g_goto X (n := 4) dX6_ofStreams_83 (by decide) ?_
            refine g_lv (lv' := [(0, .ref (μ 0)), (1, .int (iI w)), (2, .int (iI (z + g ((70 + 10 * y) + 7)))), (3, .int (iI (y + 1)))]) [3, 4, 1, 0] rfl ?_
            exact ih (k + 1) _ _ (by omega) (by omega) (by simp only [ofS]; rw [ofV, if_neg (by omega), if_neg (by omega), hz, hy]) (by omega)
          · refine g_aload_n X 1 rfl dX6_ofStreams_55 rfl ?_
            refine g_get X cl_X6 0 (by decide) wf_X6_7 rfl (hμ.mem 0 (by decide)) hMo rfl dX6_ofStreams_56 rfl ?_
            refine g_iload X 0 rfl dX6_ofStreams_59 rfl ?_
            refine g_bipush X (z := 6) (by decide +kernel) dX6_ofStreams_61 rfl ?_
            refine g_iadd X dX6_ofStreams_63 rfl ?_
            refine g_iald X (hμ.mem 1 (by decide)) hMs ⟨by omega, by omega⟩ (by decide) dX6_ofStreams_64 rfl ?_
            refine g_goto X (n := 78) dX6_ofStreams_65 (by decide) ?_
            refine g_iadd X dX6_ofStreams_78 rfl ?_
            refine g_istore_n X (lv' := [(2, .int (iI (z + g ((70 + 10 * y) + 6)))), (4, .int (iI (70 + 10 * y))), (0, .ref (μ 0)), (1, .int (iI w)), (3, .int (iI y))]) (by decide) rfl dX6_ofStreams_79 rfl ?_
            refine g_iinc X (lv' := [(3, .int (iI (y + 1))), (2, .int (iI (z + g ((70 + 10 * y) + 6)))), (4, .int (iI (70 + 10 * y))), (0, .ref (μ 0)), (1, .int (iI w))]) 4 rfl (by decide) rfl dX6_ofStreams_80 rfl ?_
            refine g_goto X (n := 4) dX6_ofStreams_83 (by decide) ?_
            refine g_lv (lv' := [(0, .ref (μ 0)), (1, .int (iI w)), (2, .int (iI (z + g ((70 + 10 * y) + 6)))), (3, .int (iI (y + 1)))]) [3, 4, 1, 0] rfl ?_
            exact ih (k + 1) _ _ (by omega) (by omega) (by simp only [ofS]; rw [ofV, if_neg (by omega), if_pos (by omega), hz, hy]) (by omega)
        · refine g_aload_n X 1 rfl dX6_ofStreams_27 rfl ?_
          refine g_get X cl_X6 0 (by decide) wf_X6_7 rfl (hμ.mem 0 (by decide)) hMo rfl dX6_ofStreams_28 rfl ?_
          refine g_iload X 0 rfl dX6_ofStreams_31 rfl ?_
          refine g_iconst X (z := 2) dX6_ofStreams_33 rfl ?_
          refine g_iadd X dX6_ofStreams_34 rfl ?_
          refine g_iald X (hμ.mem 1 (by decide)) hMs ⟨by omega, by omega⟩ (by decide) dX6_ofStreams_35 rfl ?_
          refine g_aload_n X 1 rfl dX6_ofStreams_36 rfl ?_
          refine g_get X cl_X6 0 (by decide) wf_X6_7 rfl (hμ.mem 0 (by decide)) hMo rfl dX6_ofStreams_37 rfl ?_
          refine g_iload X 0 rfl dX6_ofStreams_40 rfl ?_
          refine g_iconst X (z := 3) dX6_ofStreams_42 rfl ?_
          refine g_iadd X dX6_ofStreams_43 rfl ?_
          refine g_iald X (hμ.mem 1 (by decide)) hMs ⟨by omega, by omega⟩ (by decide) dX6_ofStreams_44 rfl ?_
          refine g_isub X dX6_ofStreams_45 rfl ?_
          refine g_goto X (n := 78) dX6_ofStreams_46 (by decide) ?_
          refine g_iadd X dX6_ofStreams_78 rfl ?_
          refine g_istore_n X (lv' := [(2, .int (iI (z + (g ((70 + 10 * y) + 2) - g ((70 + 10 * y) + 3))))), (4, .int (iI (70 + 10 * y))), (0, .ref (μ 0)), (1, .int (iI w)), (3, .int (iI y))]) (by decide) rfl dX6_ofStreams_79 rfl ?_
          refine g_iinc X (lv' := [(3, .int (iI (y + 1))), (2, .int (iI (z + (g ((70 + 10 * y) + 2) - g ((70 + 10 * y) + 3))))), (4, .int (iI (70 + 10 * y))), (0, .ref (μ 0)), (1, .int (iI w))]) 4 rfl (by decide) rfl dX6_ofStreams_80 rfl ?_
          refine g_goto X (n := 4) dX6_ofStreams_83 (by decide) ?_
          refine g_lv (lv' := [(0, .ref (μ 0)), (1, .int (iI w)), (2, .int (iI (z + (g ((70 + 10 * y) + 2) - g ((70 + 10 * y) + 3))))), (3, .int (iI (y + 1)))]) [3, 4, 1, 0] rfl ?_
          exact ih (k + 1) _ _ (by omega) (by omega) (by simp only [ofS]; rw [ofV, if_pos (by omega), hz, hy]) (by omega)
  refine g_iconst X (z := 0) dX6_ofStreams_0 rfl ?_
  refine g_istore_n X (lv' := [(2, .int (iI 0)), (0, .ref (μ 0)), (1, .int (iI w))]) (by decide) rfl dX6_ofStreams_1 rfl ?_
  refine g_iconst X (z := 0) dX6_ofStreams_2 rfl ?_
  refine g_istore_n X (lv' := [(3, .int (iI 0)), (2, .int (iI 0)), (0, .ref (μ 0)), (1, .int (iI w))]) (by decide) rfl dX6_ofStreams_3 rfl ?_
  refine g_lv (lv' := [(0, .ref (μ 0)), (1, .int (iI w)), (2, .int (iI 0)), (3, .int (iI 0))]) [2, 3, 1, 0] rfl ?_
  exact lp 9 0 _ _ rfl (by omega) rfl (by omega)
