/-! the reference: put -/
set_option maxRecDepth 100000 in
set_option maxHeartbeats 4000000 in
theorem ct_X6_put (l : Launch) (μ : Nat → Nat) (q g : Int → Int) (sp tr be sa iz rd pa : Int → Int) (c1 : Int64) : Ct l yX6_put cX6_put 8 (some .int) 0 0 0 (fun ca av L M => av = [.ref (μ 0), .long c1] ∧ MuOk μ L ∧ M (μ 0) = oMd μ q ∧ M (μ 1) = cI ca 110 g ∧ M (μ 2) = cI ca 110 sp ∧ M (μ 3) = cI ca 110 tr ∧ M (μ 4) = cI ca 660 be ∧ M (μ 5) = cI ca 220 sa ∧ M (μ 6) = cZ ca 2 iz ∧ M (μ 7) = cI ca 33 rd ∧ M (μ 8) = cC ca 60 pa ∧ Inv g ∧ (0 ≤ q 0 ∧ q 0 ≤ 60) ∧ (0 ≤ q 1 ∧ q 1 ≤ 6)) (fun ca av L M r L1 M1 => r = some (.int (iI (anPut (g, be, sa, iz, pa, q 0, q 1) c1))) ∧ L = L1 ∧ Md ca M1 μ (opPut (g, be, sa, iz, pa, q 0, q 1) c1) ∧ ∀ b, (∀ i, i < 9 → b ≠ μ i) → M1 b = M b) := by
  refine Ct_of (own := RX6) (by decide) rfl (by rintro _ _ _ _ ⟨rfl, _⟩; exact Nat.le_of_ble_eq_true rfl) ?_
  rintro p e s m args below meth c D ca A av L M ⟨rfl, hμ, hMo, hMs, hM2, hM3, hM4, hM5, hM6, hM7, hM8, hI, hq0, hq1⟩ X hret hname
  refine g_lv (lv' := [(0, .ref (μ 0)), (1, .long c1)]) [0, 1] rfl ?_
  generalize hQ : MQ below _ args s _ _ A = Q
  have lp2 : ∀ (n : Nat) (nn t ln y : Int) (M1 : Mem) (f : Int → Int) (hnn : nn = ptN c1) (hn1 : 0 < nn) (hn2 : q 0 + nn ≤ 60) (ht0 : 0 ≤ t) (ht1 : t ≤ nn) (hln : ln = q 0 + t) (hf : f = apP c1 nn (q 0) t pa) (hy : y = nn - 1 - t) (n0 : M1 (μ 0) = .inr (6, [.ref (μ 1), .ref (μ 2), .ref (μ 3), .ref (μ 4), .ref (μ 5), .ref (μ 6), .ref (μ 7), .ref (μ 8), .int (iI ln), .int (iI (q 1)), .int (iI (q 2)), .int (iI (q 3))])) (n1 : M1 (μ 1) = cI ca 110 g) (n2 : M1 (μ 2) = cI ca 110 sp) (n3 : M1 (μ 3) = cI ca 110 tr) (n4 : M1 (μ 4) = cI ca 660 be) (n5 : M1 (μ 5) = cI ca 220 sa) (n6 : M1 (μ 6) = cZ ca 2 iz) (n7 : M1 (μ 7) = cI ca 33 rd) (n8 : M1 (μ 8) = cC ca 60 f) (hfr : ∀ b, b ≠ μ 0 → b ≠ μ 8 → M1 b = M b) (hm : nn - t < (n : Int)), G p l e (Rm 0 0 0) s m args below meth c D A 8 Q 0 0 L M1 86 [(0, .ref (μ 0)), (1, .long c1), (6, .int (iI y))] [] := by
    intro n
    induction n with
    | zero =>
      intro nn t ln y M1 f hnn hn1 hn2 ht0 ht1 hln hf hy n0 n1 n2 n3 n4 n5 n6 n7 n8 hfr hm
      exfalso; omega
    | succ n ih =>
      intro nn t ln y M1 f hnn hn1 hn2 ht0 ht1 hln hf hy n0 n1 n2 n3 n4 n5 n6 n7 n8 hfr hm
      have hnr := ptN_rng c1
      refine g_iload X 2 rfl dX6_put_86 rfl ?_
      refine g_if_lt X ⟨by omega, by omega⟩ (tgt := 129) dX6_put_88 (by decide) rfl (fun h_1 => ?_) (fun h_1 => ?_)
      · refine g_aload_n X 0 rfl dX6_put_129 rfl ?_
        refine g_get X cl_X6 8 (by decide) wf_X6_99 rfl (hμ.mem 0 (by decide)) n0 rfl dX6_put_130 rfl ?_
        subst hQ
        have htn : t = ptN c1 := by omega
        rw [hf, htn, hnn] at n8
        rw [hln, htn] at n0
        exact g_iret X hret ⟨Nat.le_of_ble_eq_true rfl, Nat.le_of_ble_eq_true rfl⟩ dX6_put_133 ⟨by rw [anPut, if_neg (by omega), if_neg (by first | omega | (dsimp only; omega)), hln, htn], rfl, by rw [opPut, if_pos (by first | omega | (dsimp only; omega))]; exact ⟨(up q 0 (q 0 + ptN c1)), _, _, _, rfl, rfl, n0, n1, n2, n3, n4, n5, n6, n7, n8⟩, (fun b hb => (hfr b (hb 0 (by decide)) (hb 8 (by decide))))⟩
      · refine g_aload_n X 0 rfl dX6_put_91 rfl ?_
        refine g_get X cl_X6 7 (by decide) wf_X6_32 rfl (hμ.mem 0 (by decide)) n0 rfl dX6_put_92 rfl ?_
        refine g_aload_n X 0 rfl dX6_put_95 rfl ?_
        refine g_get X cl_X6 8 (by decide) wf_X6_99 rfl (hμ.mem 0 (by decide)) n0 rfl dX6_put_96 rfl ?_
        refine g_lload_n X 1 rfl dX6_put_99 rfl ?_
        refine g_bipush X (z := 8) (by decide +kernel) dX6_put_100 rfl ?_
        refine g_iload X 2 rfl dX6_put_102 rfl ?_
        refine g_imul X dX6_put_104 rfl ?_
        refine g_lushr X (v := (sh8 c1 (8 * y))) rfl dX6_put_105 rfl ?_
        refine g_ldc2 X (v := 255) wv_X6_156 dX6_put_106 rfl ?_
        refine g_land X (v := ((sh8 c1 (8 * y)) &&& 255)) rfl dX6_put_109 rfl ?_
        refine g_l2i X (lb_l2i (sh8 c1 (8 * y))) dX6_put_110 rfl ?_
        refine g_i2c X (ch_i2c (lb_rng _)) dX6_put_111 rfl ?_
        refine g_cast X (hμ.mem 8 (by decide)) n8 ⟨by omega, by omega⟩ (by decide) (ch_nar (lb_rng _)) dX6_put_112 rfl (fun M_2 hM_3 fr_4 => ?_)
        obtain ⟨g_5, hg_6⟩ : ∃ x : Int → Int, x = up f ln (lb (sh8 c1 (8 * y))) := ⟨_, rfl⟩
        rw [← hg_6] at hM_3
        have hM_7 : M_2 (μ 0) = .inr (6, [.ref (μ 1), .ref (μ 2), .ref (μ 3), .ref (μ 4), .ref (μ 5), .ref (μ 6), .ref (μ 7), .ref (μ 8), .int (iI ln), .int (iI (q 1)), .int (iI (q 2)), .int (iI (q 3))]) := (fr_4 (μ 0) (hμ.ne (i := 0) (j := 8) (by decide) (by decide) (by decide))).trans n0
        have hM_8 : M_2 (μ 1) = cI ca 110 g := (fr_4 (μ 1) (hμ.ne (i := 1) (j := 8) (by decide) (by decide) (by decide))).trans n1
        have hM_9 : M_2 (μ 2) = cI ca 110 sp := (fr_4 (μ 2) (hμ.ne (i := 2) (j := 8) (by decide) (by decide) (by decide))).trans n2
        have hM_10 : M_2 (μ 3) = cI ca 110 tr := (fr_4 (μ 3) (hμ.ne (i := 3) (j := 8) (by decide) (by decide) (by decide))).trans n3
        have hM_11 : M_2 (μ 4) = cI ca 660 be := (fr_4 (μ 4) (hμ.ne (i := 4) (j := 8) (by decide) (by decide) (by decide))).trans n4
        have hM_12 : M_2 (μ 5) = cI ca 220 sa := (fr_4 (μ 5) (hμ.ne (i := 5) (j := 8) (by decide) (by decide) (by decide))).trans n5
        have hM_13 : M_2 (μ 6) = cZ ca 2 iz := (fr_4 (μ 6) (hμ.ne (i := 6) (j := 8) (by decide) (by decide) (by decide))).trans n6
        have hM_14 : M_2 (μ 7) = cI ca 33 rd := (fr_4 (μ 7) (hμ.ne (i := 7) (j := 8) (by decide) (by decide) (by decide))).trans n7
        refine g_aload_n X 0 rfl dX6_put_113 rfl ?_
        refine g_dup X rfl dX6_put_114 rfl ?_
        refine g_get X cl_X6 8 (by decide) wf_X6_99 rfl (hμ.mem 0 (by decide)) hM_7 rfl dX6_put_115 rfl ?_
        refine g_iconst X (z := 1) dX6_put_118 rfl ?_
        refine g_iadd X dX6_put_119 rfl ?_
        refine g_put X cl_X6 8 (by decide) wf_X6_99 rfl (hμ.mem 0 (by decide)) hM_7 rfl rfl rfl (Nat.le_of_ble_eq_true rfl) (fs' := [.ref (μ 1), .ref (μ 2), .ref (μ 3), .ref (μ 4), .ref (μ 5), .ref (μ 6), .ref (μ 7), .ref (μ 8), .int (iI (ln + 1)), .int (iI (q 1)), .int (iI (q 2)), .int (iI (q 3))]) rfl dX6_put_120 rfl (fun M_15 hM_16 fr_17 => ?_)
        have hM_18 : M_15 (μ 1) = cI ca 110 g := (fr_17 (μ 1) (hμ.ne (i := 1) (j := 0) (by decide) (by decide) (by decide))).trans hM_8
        have hM_19 : M_15 (μ 2) = cI ca 110 sp := (fr_17 (μ 2) (hμ.ne (i := 2) (j := 0) (by decide) (by decide) (by decide))).trans hM_9
        have hM_20 : M_15 (μ 3) = cI ca 110 tr := (fr_17 (μ 3) (hμ.ne (i := 3) (j := 0) (by decide) (by decide) (by decide))).trans hM_10
        have hM_21 : M_15 (μ 4) = cI ca 660 be := (fr_17 (μ 4) (hμ.ne (i := 4) (j := 0) (by decide) (by decide) (by decide))).trans hM_11
        have hM_22 : M_15 (μ 5) = cI ca 220 sa := (fr_17 (μ 5) (hμ.ne (i := 5) (j := 0) (by decide) (by decide) (by decide))).trans hM_12
        have hM_23 : M_15 (μ 6) = cZ ca 2 iz := (fr_17 (μ 6) (hμ.ne (i := 6) (j := 0) (by decide) (by decide) (by decide))).trans hM_13
        have hM_24 : M_15 (μ 7) = cI ca 33 rd := (fr_17 (μ 7) (hμ.ne (i := 7) (j := 0) (by decide) (by decide) (by decide))).trans hM_14
        have hM_25 : M_15 (μ 8) = cC ca 60 g_5 := (fr_17 (μ 8) (hμ.ne (i := 8) (j := 0) (by decide) (by decide) (by decide))).trans hM_3
        refine g_iinc X (lv' := [(6, .int (iI (y + (-1)))), (0, .ref (μ 0)), (1, .long c1)]) 2 rfl (by decide) rfl dX6_put_123 rfl ?_
        refine g_goto X (n := 86) dX6_put_126 (by decide) ?_
        refine g_lv (lv' := [(0, .ref (μ 0)), (1, .long c1), (6, .int (iI (y + (-1))))]) [1, 2, 0] rfl ?_
        exact ih nn (t + 1) _ _ _ _ hnn hn1 hn2 (by omega) (by omega) (by omega) (by rw [hg_6, hf, hln, show y = nn - 1 - t from by omega, apP_up _ _ _ _ ht0]) (by omega) hM_16 hM_18 hM_19 hM_20 hM_21 hM_22 hM_23 hM_24 hM_25 (fun b hb0 hb8 => ((fr_17 b hb0).trans ((fr_4 b hb8).trans (hfr b hb0 hb8)))) (by omega)
  have lp1 : ∀ (n : Nat) (k fu : Nat) (y : Int) (w : Int64) (hy : y = k) (hw : w = sq8 c1 k) (hF : ptF c1 fu k = ptN c1) (hkf : k + fu = 8) (hm : fu < n), G p l e (Rm 0 0 0) s m args below meth c D A 8 Q 0 0 L M 5 [(0, .ref (μ 0)), (1, .long c1), (3, .int (iI y)), (4, .long w)] [] := by
    intro n
    induction n with
    | zero =>
      intro k fu y w hy hw hF hkf hm
      exfalso; omega
    | succ n ih =>
      intro k fu y w hy hw hF hkf hm
      have hlb := lb_rng w
      have hfz : k = 8 → ptN c1 = 8 := fun h => by rw [← hF, show fu = 0 from by omega, h]; rfl
      have hfy : k < 8 → w.toInt = 0 → ptN c1 = k := fun h h0 => by
        obtain ⟨f2, rfl⟩ : ∃ f2, fu = f2 + 1 := ⟨fu - 1, by omega⟩
        rw [← hF]; simp only [ptF]; rw [← hw, if_pos h0]
      have hfb : k < 8 → ¬ w.toInt = 0 → ¬ (33 ≤ lb w ∧ lb w ≤ 126) → ptN c1 = -1 := fun h h0 h1 => by
        obtain ⟨f2, rfl⟩ : ∃ f2, fu = f2 + 1 := ⟨fu - 1, by omega⟩
        rw [← hF]; simp only [ptF]; rw [← hw, if_neg h0, if_neg h1]
      refine g_iload_n X 2 rfl dX6_put_5 rfl ?_
      refine g_bipush X (z := 8) (by decide +kernel) dX6_put_6 rfl ?_
      refine g_icmp_ge X ⟨by omega, by omega⟩ ⟨by decide, by decide⟩ (tgt := 60) dX6_put_8 (by decide) rfl (fun h_34 => ?_) (fun h_34 => ?_)
      · have hpn : ptN c1 = y := by rcases (by omega : k = 8 ∨ k < 8) with q8 | q8; exact (hfz q8).trans (by omega); exact (hfy q8 (by omega)).trans (by omega)
        refine g_iload_n X 2 rfl dX6_put_60 rfl ?_
        refine g_if_ne X ⟨by omega, by omega⟩ (tgt := 67) dX6_put_61 (by decide) rfl (fun h_35 => ?_) (fun h_35 => ?_)
        · refine g_aload_n X 0 rfl dX6_put_67 rfl ?_
          refine g_get X cl_X6 8 (by decide) wf_X6_99 rfl (hμ.mem 0 (by decide)) hMo rfl dX6_put_68 rfl ?_
          refine g_iload_n X 2 rfl dX6_put_71 rfl ?_
          refine g_iadd X dX6_put_72 rfl ?_
          refine g_bipush X (z := 60) (by decide +kernel) dX6_put_73 rfl ?_
          refine g_icmp_le X ⟨by omega, by omega⟩ ⟨by decide, by decide⟩ (tgt := 81) dX6_put_75 (by decide) rfl (fun h_36 => ?_) (fun h_36 => ?_)
          · refine g_iload_n X 2 rfl dX6_put_81 rfl ?_
            refine g_iconst X (z := 1) dX6_put_82 rfl ?_
            refine g_isub X dX6_put_83 rfl ?_
            refine g_istore X (lv' := [(6, .int (iI (y - 1))), (0, .ref (μ 0)), (1, .long c1), (3, .int (iI y)), (4, .long w)]) (by decide) rfl dX6_put_84 rfl ?_
            have hnr := ptN_rng c1
            refine g_lv (lv' := [(0, .ref (μ 0)), (1, .long c1), (6, .int (iI (y - 1)))]) [1, 2, 0] rfl ?_
            exact lp2 20 (ptN c1) 0 _ _ _ _ rfl (by omega) (by omega) (by decide) (by omega) (by omega) (by rw [apP_0]) (by omega) hMo hMs hM2 hM3 hM4 hM5 hM6 hM7 hM8 (fun b hb0 hb8 => rfl) (by omega)
          · refine g_bipush X (z := -4) (by decide +kernel) dX6_put_78 rfl ?_
            subst hQ
            have hn2 := ptN_rng c1
            exact g_iret X hret ⟨Nat.le_of_ble_eq_true rfl, Nat.le_of_ble_eq_true rfl⟩ dX6_put_80 ⟨by rw [anPut, if_neg (by omega), if_pos (by first | omega | (dsimp only; omega))], rfl, by rw [opPut, if_neg (by first | omega | (dsimp only; omega))]; exact ⟨q, _, _, _, rfl, rfl, hMo, hMs, hM2, hM3, hM4, hM5, hM6, hM7, hM8⟩, (fun b hb => rfl)⟩
        · refine g_bipush X (z := -2) (by decide +kernel) dX6_put_64 rfl ?_
          subst hQ
          exact g_iret X hret ⟨Nat.le_of_ble_eq_true rfl, Nat.le_of_ble_eq_true rfl⟩ dX6_put_66 ⟨by rw [anPut, if_pos (by omega)], rfl, by rw [opPut, if_neg (by omega)]; exact ⟨q, _, _, _, rfl, rfl, hMo, hMs, hM2, hM3, hM4, hM5, hM6, hM7, hM8⟩, (fun b hb => rfl)⟩
      · refine g_lload X 3 rfl dX6_put_11 rfl ?_
        refine g_lconst X (v := 0) rfl dX6_put_13 rfl ?_
        refine g_lcmp_eq X (a := w.toInt) (b := 0) (tgt := 60) rfl (by decide +kernel) dX6_put_14 rfl dX6_put_15 (by decide) rfl (fun h_37 => ?_) (fun h_37 => ?_)
        · have hpn : ptN c1 = y := by rcases (by omega : k = 8 ∨ k < 8) with q8 | q8; exact (hfz q8).trans (by omega); exact (hfy q8 (by omega)).trans (by omega)
          refine g_iload_n X 2 rfl dX6_put_60 rfl ?_
          refine g_if_ne X ⟨by omega, by omega⟩ (tgt := 67) dX6_put_61 (by decide) rfl (fun h_38 => ?_) (fun h_38 => ?_)
          · refine g_aload_n X 0 rfl dX6_put_67 rfl ?_
            refine g_get X cl_X6 8 (by decide) wf_X6_99 rfl (hμ.mem 0 (by decide)) hMo rfl dX6_put_68 rfl ?_
            refine g_iload_n X 2 rfl dX6_put_71 rfl ?_
            refine g_iadd X dX6_put_72 rfl ?_
            refine g_bipush X (z := 60) (by decide +kernel) dX6_put_73 rfl ?_
            refine g_icmp_le X ⟨by omega, by omega⟩ ⟨by decide, by decide⟩ (tgt := 81) dX6_put_75 (by decide) rfl (fun h_39 => ?_) (fun h_39 => ?_)
            · refine g_iload_n X 2 rfl dX6_put_81 rfl ?_
              refine g_iconst X (z := 1) dX6_put_82 rfl ?_
              refine g_isub X dX6_put_83 rfl ?_
              refine g_istore X (lv' := [(6, .int (iI (y - 1))), (0, .ref (μ 0)), (1, .long c1), (3, .int (iI y)), (4, .long w)]) (by decide) rfl dX6_put_84 rfl ?_
              have hnr := ptN_rng c1
              refine g_lv (lv' := [(0, .ref (μ 0)), (1, .long c1), (6, .int (iI (y - 1)))]) [1, 2, 0] rfl ?_
              exact lp2 20 (ptN c1) 0 _ _ _ _ rfl (by omega) (by omega) (by decide) (by omega) (by omega) (by rw [apP_0]) (by omega) hMo hMs hM2 hM3 hM4 hM5 hM6 hM7 hM8 (fun b hb0 hb8 => rfl) (by omega)
            · refine g_bipush X (z := -4) (by decide +kernel) dX6_put_78 rfl ?_
              subst hQ
              have hn2 := ptN_rng c1
              exact g_iret X hret ⟨Nat.le_of_ble_eq_true rfl, Nat.le_of_ble_eq_true rfl⟩ dX6_put_80 ⟨by rw [anPut, if_neg (by omega), if_pos (by first | omega | (dsimp only; omega))], rfl, by rw [opPut, if_neg (by first | omega | (dsimp only; omega))]; exact ⟨q, _, _, _, rfl, rfl, hMo, hMs, hM2, hM3, hM4, hM5, hM6, hM7, hM8⟩, (fun b hb => rfl)⟩
          · refine g_bipush X (z := -2) (by decide +kernel) dX6_put_64 rfl ?_
            subst hQ
            exact g_iret X hret ⟨Nat.le_of_ble_eq_true rfl, Nat.le_of_ble_eq_true rfl⟩ dX6_put_66 ⟨by rw [anPut, if_pos (by omega)], rfl, by rw [opPut, if_neg (by omega)]; exact ⟨q, _, _, _, rfl, rfl, hMo, hMs, hM2, hM3, hM4, hM5, hM6, hM7, hM8⟩, (fun b hb => rfl)⟩
        · refine g_lload X 3 rfl dX6_put_18 rfl ?_
          refine g_ldc2 X (v := 255) wv_X6_156 dX6_put_20 rfl ?_
          refine g_land X (v := (w &&& 255)) rfl dX6_put_23 rfl ?_
          refine g_lstore X (lv' := [(6, .long (w &&& 255)), (0, .ref (μ 0)), (1, .long c1), (3, .int (iI y)), (4, .long w)]) (by decide) rfl dX6_put_24 rfl ?_
          refine g_lload X 0 rfl dX6_put_26 rfl ?_
          refine g_ldc2 X (v := 33) wv_X6_158 dX6_put_28 rfl ?_
          refine g_lcmp_lt X (a := lb w) (b := 33) (tgt := 44) rfl (by decide +kernel) dX6_put_31 rfl dX6_put_32 (by decide) rfl (fun h_40 => ?_) (fun h_40 => ?_)
          · refine g_bipush X (z := -2) (by decide +kernel) dX6_put_44 rfl ?_
            have hpb := hfb (by omega) (by omega) (by omega)
            subst hQ
            exact g_iret X hret ⟨Nat.le_of_ble_eq_true rfl, Nat.le_of_ble_eq_true rfl⟩ dX6_put_46 ⟨by rw [anPut, if_pos (by omega)], rfl, by rw [opPut, if_neg (by omega)]; exact ⟨q, _, _, _, rfl, rfl, hMo, hMs, hM2, hM3, hM4, hM5, hM6, hM7, hM8⟩, (fun b hb => rfl)⟩
          · refine g_lload X 0 rfl dX6_put_35 rfl ?_
            refine g_ldc2 X (v := 126) wv_X6_160 dX6_put_37 rfl ?_
            refine g_lcmp_le X (a := lb w) (b := 126) (tgt := 47) rfl (by decide +kernel) dX6_put_40 rfl dX6_put_41 (by decide) rfl (fun h_41 => ?_) (fun h_41 => ?_)
            · refine g_lload X 4 rfl dX6_put_47 rfl ?_
              refine g_bipush X (z := 8) (by decide +kernel) dX6_put_49 rfl ?_
              refine g_lushr X (v := (sh8 w 8)) rfl dX6_put_51 rfl ?_
              refine g_lstore X (lv' := [(4, .long (sh8 w 8)), (6, .long (w &&& 255)), (0, .ref (μ 0)), (1, .long c1), (3, .int (iI y))]) (by decide) rfl dX6_put_52 rfl ?_
              refine g_iinc X (lv' := [(3, .int (iI (y + 1))), (4, .long (sh8 w 8)), (6, .long (w &&& 255)), (0, .ref (μ 0)), (1, .long c1)]) 4 rfl (by decide) rfl dX6_put_54 rfl ?_
              refine g_goto X (n := 5) dX6_put_57 (by decide) ?_
              have hlt : 0 < fu := by omega
              obtain ⟨f2, rfl⟩ : ∃ f2, fu = f2 + 1 := ⟨fu - 1, by omega⟩
              have hx : ptF c1 (f2 + 1) k = ptF c1 f2 (k + 1) := by simp only [ptF]; rw [← hw, if_neg (by omega), if_pos (by omega)]
              refine g_lv (lv' := [(0, .ref (μ 0)), (1, .long c1), (3, .int (iI (y + 1))), (4, .long (sh8 w 8))]) [3, 4, 0, 1] rfl ?_
              exact ih (k + 1) f2 _ _ (by omega) (by rw [hw]; rfl) (by omega) (by omega) (by omega)
            · refine g_bipush X (z := -2) (by decide +kernel) dX6_put_44 rfl ?_
              have hpb := hfb (by omega) (by omega) (by omega)
              subst hQ
              exact g_iret X hret ⟨Nat.le_of_ble_eq_true rfl, Nat.le_of_ble_eq_true rfl⟩ dX6_put_46 ⟨by rw [anPut, if_pos (by omega)], rfl, by rw [opPut, if_neg (by omega)]; exact ⟨q, _, _, _, rfl, rfl, hMo, hMs, hM2, hM3, hM4, hM5, hM6, hM7, hM8⟩, (fun b hb => rfl)⟩
  refine g_iconst X (z := 0) dX6_put_0 rfl ?_
  refine g_istore_n X (lv' := [(3, .int (iI 0)), (0, .ref (μ 0)), (1, .long c1)]) (by decide) rfl dX6_put_1 rfl ?_
  refine g_lload_n X 2 rfl dX6_put_2 rfl ?_
  refine g_lstore X (lv' := [(4, .long c1), (3, .int (iI 0)), (0, .ref (μ 0)), (1, .long c1)]) (by decide) rfl dX6_put_3 rfl ?_
  refine g_lv (lv' := [(0, .ref (μ 0)), (1, .long c1), (3, .int (iI 0)), (4, .long c1)]) [2, 3, 1, 0] rfl ?_
  exact lp1 9 0 8 _ _ rfl rfl rfl (by decide) (by decide)
