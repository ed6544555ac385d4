/-! the reference: begins, words left, a cycle, until all are done -/
set_option maxRecDepth 100000 in
set_option maxHeartbeats 4000000 in
theorem ct_X6_begins (l : Launch) (μ : Nat → Nat) (q g : Int → Int) (i : Int) : Ct l yX6_begins cX6_begins 3 none 1 0 0 (fun ca av L M => av = [.ref (μ 0), .int (iI i)] ∧ MuOk μ L ∧ M (μ 0) = oMd μ q ∧ M (μ 1) = cI ca 110 g ∧ 0 ≤ i ∧ i < 4) (fun ca av L M r L1 M1 => r = none ∧ L = L1 ∧ M1 (μ 1) = cI ca 110 (bgnG g i) ∧ ∀ b, b ≠ μ 1 → M1 b = M b) := by
  refine Ct_of (own := RX6) (by decide) rfl (by rintro _ _ _ _ ⟨rfl, _⟩; exact Nat.le_of_ble_eq_true rfl) ?_
  rintro p e s m args below meth c D ca A av L M ⟨rfl, hμ, hMo, hMs, hi0, hi1⟩ X hret hname
  refine g_lv (lv' := [(0, .ref (μ 0)), (1, .int (iI i))]) [0, 1] rfl ?_
  refine g_iload_n X 1 rfl dX6_begins_0 rfl ?_
  refine g_callS X (ct_X6_m l i) (As := [.int (iI i)]) (rest := []) rfl ca_X6_m rfl wm_X6_52 wt_X6_m wc_X6_m w0_X6 ⟨by decide, by decide⟩ (by decide) ⟨by decide, by decide⟩ rfl dX6_begins_1 rfl ⟨rfl, trivial⟩ (fun r1 L1 M1 hq => ?_)
  obtain ⟨rfl, rfl, rfl⟩ := hq
  refine g_st (st' := [.int (iI (70 + 10 * i))]) rfl ?_
  refine g_istore_n X (lv' := [(2, .int (iI (70 + 10 * i))), (0, .ref (μ 0)), (1, .int (iI i))]) (by decide) rfl dX6_begins_4 rfl ?_
  refine g_aload_n X 1 rfl dX6_begins_5 rfl ?_
  refine g_get X cl_X6 0 (by decide) wf_X6_7 rfl (hμ.mem 0 (by decide)) hMo rfl dX6_begins_6 rfl ?_
  refine g_iload_n X 0 rfl dX6_begins_9 rfl ?_
  refine g_iconst X (z := 3) dX6_begins_10 rfl ?_
  refine g_iadd X dX6_begins_11 rfl ?_
  refine g_aload_n X 1 rfl dX6_begins_12 rfl ?_
  refine g_get X cl_X6 0 (by decide) wf_X6_7 rfl (hμ.mem 0 (by decide)) hMo rfl dX6_begins_13 rfl ?_
  refine g_iload_n X 0 rfl dX6_begins_16 rfl ?_
  refine g_iconst X (z := 2) dX6_begins_17 rfl ?_
  refine g_iadd X dX6_begins_18 rfl ?_
  refine g_iald X (hμ.mem 1 (by decide)) hMs ⟨by omega, by omega⟩ (by decide) dX6_begins_19 rfl ?_
  refine g_iast X (hμ.mem 1 (by decide)) hMs ⟨by omega, by omega⟩ (by decide) dX6_begins_20 rfl (fun M_1 hM_2 fr_3 => ?_)
  obtain ⟨g_4, hg_5⟩ : ∃ x : Int → Int, x = up g ((70 + 10 * i) + 3) (g ((70 + 10 * i) + 2)) := ⟨_, rfl⟩
  rw [← hg_5] at hM_2
  have hM_6 : M_1 (μ 0) = .inr (6, [.ref (μ 1), .ref (μ 2), .ref (μ 3), .ref (μ 4), .ref (μ 5), .ref (μ 6), .ref (μ 7), .ref (μ 8), .int (iI (q 0)), .int (iI (q 1)), .int (iI (q 2)), .int (iI (q 3))]) := (fr_3 (μ 0) (hμ.ne (i := 0) (j := 1) (by decide) (by decide) (by decide))).trans hMo
  refine g_aload_n X 1 rfl dX6_begins_21 rfl ?_
  refine g_get X cl_X6 0 (by decide) wf_X6_7 rfl (hμ.mem 0 (by decide)) hM_6 rfl dX6_begins_22 rfl ?_
  refine g_iload_n X 0 rfl dX6_begins_25 rfl ?_
  refine g_iconst X (z := 4) dX6_begins_26 rfl ?_
  refine g_iadd X dX6_begins_27 rfl ?_
  refine g_aload_n X 1 rfl dX6_begins_28 rfl ?_
  refine g_get X cl_X6 0 (by decide) wf_X6_7 rfl (hμ.mem 0 (by decide)) hM_6 rfl dX6_begins_29 rfl ?_
  refine g_iload_n X 0 rfl dX6_begins_32 rfl ?_
  refine g_iconst X (z := 0) dX6_begins_33 rfl ?_
  refine g_iadd X dX6_begins_34 rfl ?_
  refine g_st (st' := [.int (iI (70 + 10 * i)), .ref (μ 1), .int (iI ((70 + 10 * i) + 4)), .ref (μ 1)]) (by rw [Int.add_zero]) ?_
  refine g_iald X (hμ.mem 1 (by decide)) hM_2 ⟨by omega, by omega⟩ (by decide) dX6_begins_35 rfl ?_
  have hr_7 : g_4 (70 + 10 * i) = g (70 + 10 * i) := by rw [hg_5, up_ne _ _ (by omega)]
  refine g_st (st' := [.int (iI (g (70 + 10 * i))), .int (iI ((70 + 10 * i) + 4)), .ref (μ 1)]) (by rw [hr_7]) ?_
  refine g_iast X (hμ.mem 1 (by decide)) hM_2 ⟨by omega, by omega⟩ (by decide) dX6_begins_36 rfl (fun M_8 hM_9 fr_10 => ?_)
  obtain ⟨g_11, hg_12⟩ : ∃ x : Int → Int, x = up g_4 ((70 + 10 * i) + 4) (g (70 + 10 * i)) := ⟨_, rfl⟩
  rw [← hg_12] at hM_9
  have hM_13 : M_8 (μ 0) = .inr (6, [.ref (μ 1), .ref (μ 2), .ref (μ 3), .ref (μ 4), .ref (μ 5), .ref (μ 6), .ref (μ 7), .ref (μ 8), .int (iI (q 0)), .int (iI (q 1)), .int (iI (q 2)), .int (iI (q 3))]) := (fr_10 (μ 0) (hμ.ne (i := 0) (j := 1) (by decide) (by decide) (by decide))).trans hM_6
  refine g_aload_n X 1 rfl dX6_begins_37 rfl ?_
  refine g_get X cl_X6 0 (by decide) wf_X6_7 rfl (hμ.mem 0 (by decide)) hM_13 rfl dX6_begins_38 rfl ?_
  refine g_iload_n X 0 rfl dX6_begins_41 rfl ?_
  refine g_iconst X (z := 5) dX6_begins_42 rfl ?_
  refine g_iadd X dX6_begins_43 rfl ?_
  refine g_iconst X (z := -1) dX6_begins_44 rfl ?_
  refine g_iast X (hμ.mem 1 (by decide)) hM_9 ⟨by omega, by omega⟩ (by decide) dX6_begins_45 rfl (fun M_14 hM_15 fr_16 => ?_)
  obtain ⟨g_17, hg_18⟩ : ∃ x : Int → Int, x = up g_11 ((70 + 10 * i) + 5) (-1) := ⟨_, rfl⟩
  rw [← hg_18] at hM_15
  have hM_19 : M_14 (μ 0) = .inr (6, [.ref (μ 1), .ref (μ 2), .ref (μ 3), .ref (μ 4), .ref (μ 5), .ref (μ 6), .ref (μ 7), .ref (μ 8), .int (iI (q 0)), .int (iI (q 1)), .int (iI (q 2)), .int (iI (q 3))]) := (fr_16 (μ 0) (hμ.ne (i := 0) (j := 1) (by decide) (by decide) (by decide))).trans hM_13
  refine g_aload_n X 1 rfl dX6_begins_46 rfl ?_
  refine g_get X cl_X6 0 (by decide) wf_X6_7 rfl (hμ.mem 0 (by decide)) hM_19 rfl dX6_begins_47 rfl ?_
  refine g_iload_n X 0 rfl dX6_begins_50 rfl ?_
  refine g_bipush X (z := 6) (by decide +kernel) dX6_begins_51 rfl ?_
  refine g_iadd X dX6_begins_53 rfl ?_
  refine g_iconst X (z := 0) dX6_begins_54 rfl ?_
  refine g_iast X (hμ.mem 1 (by decide)) hM_15 ⟨by omega, by omega⟩ (by decide) dX6_begins_55 rfl (fun M_20 hM_21 fr_22 => ?_)
  obtain ⟨g_23, hg_24⟩ : ∃ x : Int → Int, x = up g_17 ((70 + 10 * i) + 6) 0 := ⟨_, rfl⟩
  rw [← hg_24] at hM_21
  have hM_25 : M_20 (μ 0) = .inr (6, [.ref (μ 1), .ref (μ 2), .ref (μ 3), .ref (μ 4), .ref (μ 5), .ref (μ 6), .ref (μ 7), .ref (μ 8), .int (iI (q 0)), .int (iI (q 1)), .int (iI (q 2)), .int (iI (q 3))]) := (fr_22 (μ 0) (hμ.ne (i := 0) (j := 1) (by decide) (by decide) (by decide))).trans hM_19
  refine g_aload_n X 1 rfl dX6_begins_56 rfl ?_
  refine g_get X cl_X6 0 (by decide) wf_X6_7 rfl (hμ.mem 0 (by decide)) hM_25 rfl dX6_begins_57 rfl ?_
  refine g_iload_n X 0 rfl dX6_begins_60 rfl ?_
  refine g_bipush X (z := 7) (by decide +kernel) dX6_begins_61 rfl ?_
  refine g_iadd X dX6_begins_63 rfl ?_
  refine g_iconst X (z := 0) dX6_begins_64 rfl ?_
  refine g_iast X (hμ.mem 1 (by decide)) hM_21 ⟨by omega, by omega⟩ (by decide) dX6_begins_65 rfl (fun M_26 hM_27 fr_28 => ?_)
  obtain ⟨g_29, hg_30⟩ : ∃ x : Int → Int, x = up g_23 ((70 + 10 * i) + 7) 0 := ⟨_, rfl⟩
  rw [← hg_30] at hM_27
  have hM_31 : M_26 (μ 0) = .inr (6, [.ref (μ 1), .ref (μ 2), .ref (μ 3), .ref (μ 4), .ref (μ 5), .ref (μ 6), .ref (μ 7), .ref (μ 8), .int (iI (q 0)), .int (iI (q 1)), .int (iI (q 2)), .int (iI (q 3))]) := (fr_28 (μ 0) (hμ.ne (i := 0) (j := 1) (by decide) (by decide) (by decide))).trans hM_25
  refine g_aload_n X 1 rfl dX6_begins_66 rfl ?_
  refine g_get X cl_X6 0 (by decide) wf_X6_7 rfl (hμ.mem 0 (by decide)) hM_31 rfl dX6_begins_67 rfl ?_
  refine g_iload_n X 0 rfl dX6_begins_70 rfl ?_
  refine g_bipush X (z := 8) (by decide +kernel) dX6_begins_71 rfl ?_
  refine g_iadd X dX6_begins_73 rfl ?_
  refine g_iconst X (z := -1) dX6_begins_74 rfl ?_
  refine g_iast X (hμ.mem 1 (by decide)) hM_27 ⟨by omega, by omega⟩ (by decide) dX6_begins_75 rfl (fun M_32 hM_33 fr_34 => ?_)
  obtain ⟨g_35, hg_36⟩ : ∃ x : Int → Int, x = up g_29 ((70 + 10 * i) + 8) (-1) := ⟨_, rfl⟩
  rw [← hg_36] at hM_33
  have hM_37 : M_32 (μ 0) = .inr (6, [.ref (μ 1), .ref (μ 2), .ref (μ 3), .ref (μ 4), .ref (μ 5), .ref (μ 6), .ref (μ 7), .ref (μ 8), .int (iI (q 0)), .int (iI (q 1)), .int (iI (q 2)), .int (iI (q 3))]) := (fr_34 (μ 0) (hμ.ne (i := 0) (j := 1) (by decide) (by decide) (by decide))).trans hM_31
  exact g_vret X hret ⟨Nat.le_of_ble_eq_true rfl, Nat.le_of_ble_eq_true rfl⟩ dX6_begins_76 ⟨rfl, rfl, (hM_33).trans (by rw [hg_36, hg_30, hg_24, hg_18, hg_12, hg_5, bgnG]), fun b hb => ((fr_34 b hb).trans ((fr_28 b hb).trans ((fr_22 b hb).trans ((fr_16 b hb).trans ((fr_10 b hb).trans (fr_3 b hb))))))⟩
set_option maxRecDepth 100000 in
set_option maxHeartbeats 4000000 in
theorem ct_X6_wordsLeft (l : Launch) (μ : Nat → Nat) (q g : Int → Int) : Ct l yX6_wordsLeft cX6_wordsLeft 3 (some .int) 1 0 0 (fun ca av L M => av = [.ref (μ 0)] ∧ MuOk μ L ∧ M (μ 0) = oMd μ q ∧ M (μ 1) = cI ca 110 g ∧ 0 ≤ g 5 ∧ g 5 ≤ 4) (fun ca av L M r L1 M1 => r = some (.int (iI (wlG g))) ∧ L = L1 ∧ M = M1) := by
  refine Ct_of (own := RX6) (by decide) rfl (by rintro _ _ _ _ ⟨rfl, _⟩; exact Nat.le_of_ble_eq_true rfl) ?_
  rintro p e s m args below meth c D ca A av L M ⟨rfl, hμ, hMo, hMs, h50, h51⟩ X hret hname
  refine g_lv (lv' := [(0, .ref (μ 0))]) [0] rfl ?_
  generalize hQ : MQ below _ args s _ _ A = Q
  have lp : ∀ (n : Nat) (k : Nat) (z y : Int) (hy : y = k) (hk : y ≤ g 5) (hz : z = wlS g k) (hm : g 5 - y < (n : Int)), G p l e (Rm 1 0 0) s m args below meth c D A 3 Q 0 0 L M 4 [(0, .ref (μ 0)), (1, .int (iI z)), (2, .int (iI y))] [] := by
    intro n
    induction n with
    | zero =>
      intro k z y hy hk hz hm
      exfalso; omega
    | succ n ih =>
      intro k z y hy hk hz hm
      refine g_iload_n X 2 rfl dX6_wordsLeft_4 rfl ?_
      refine g_aload_n X 0 rfl dX6_wordsLeft_5 rfl ?_
      refine g_get X cl_X6 0 (by decide) wf_X6_7 rfl (hμ.mem 0 (by decide)) hMo rfl dX6_wordsLeft_6 rfl ?_
      refine g_iconst X (z := 5) dX6_wordsLeft_9 rfl ?_
      refine g_iald X (hμ.mem 1 (by decide)) hMs ⟨by decide, by decide⟩ (by decide) dX6_wordsLeft_10 rfl ?_
      refine g_icmp_ge X ⟨by omega, by omega⟩ ⟨by omega, by omega⟩ (tgt := 34) dX6_wordsLeft_11 (by decide) rfl (fun h_1 => ?_) (fun h_1 => ?_)
      · refine g_iload_n X 1 rfl dX6_wordsLeft_34 rfl ?_
        subst hQ
        exact g_iret X hret ⟨Nat.le_of_ble_eq_true rfl, Nat.le_of_ble_eq_true rfl⟩ dX6_wordsLeft_35 ⟨by rw [hz, wlG, show (g 5).toNat = k from by omega], rfl, rfl⟩
      · refine g_iload_n X 1 rfl dX6_wordsLeft_14 rfl ?_
        refine g_aload_n X 0 rfl dX6_wordsLeft_15 rfl ?_
        refine g_get X cl_X6 0 (by decide) wf_X6_7 rfl (hμ.mem 0 (by decide)) hMo rfl dX6_wordsLeft_16 rfl ?_
        refine g_iload_n X 2 rfl dX6_wordsLeft_19 rfl ?_
        refine g_callS X (ct_X6_m l y) (As := [.int (iI y)]) (rest := [.ref (μ 1), .int (iI z)]) rfl ca_X6_m rfl wm_X6_52 wt_X6_m wc_X6_m w0_X6 ⟨by decide, by decide⟩ (Nat.le_of_ble_eq_true rfl) ⟨by decide, by decide⟩ rfl dX6_wordsLeft_20 rfl ⟨rfl, trivial⟩ (fun r1 L1 M1 hq => ?_)
        obtain ⟨rfl, rfl, rfl⟩ := hq
        refine g_st (st' := [.int (iI (70 + 10 * y)), .ref (μ 1), .int (iI z)]) rfl ?_
        refine g_iconst X (z := 3) dX6_wordsLeft_23 rfl ?_
        refine g_iadd X dX6_wordsLeft_24 rfl ?_
        refine g_iald X (hμ.mem 1 (by decide)) hMs ⟨by omega, by omega⟩ (by decide) dX6_wordsLeft_25 rfl ?_
        refine g_iadd X dX6_wordsLeft_26 rfl ?_
        refine g_istore_n X (lv' := [(1, .int (iI (z + g ((70 + 10 * y) + 3)))), (0, .ref (μ 0)), (2, .int (iI y))]) (by decide) rfl dX6_wordsLeft_27 rfl ?_
        refine g_iinc X (lv' := [(2, .int (iI (y + 1))), (1, .int (iI (z + g ((70 + 10 * y) + 3)))), (0, .ref (μ 0))]) 2 rfl (by decide) rfl dX6_wordsLeft_28 rfl ?_
        refine g_goto X (n := 4) dX6_wordsLeft_31 (by decide) ?_
        refine g_lv (lv' := [(0, .ref (μ 0)), (1, .int (iI (z + g ((70 + 10 * y) + 3)))), (2, .int (iI (y + 1)))]) [2, 1, 0] rfl ?_
        exact ih (k + 1) _ _ (by omega) (by omega) (by simp only [wlS]; rw [hz, hy]) (by omega)
  refine g_iconst X (z := 0) dX6_wordsLeft_0 rfl ?_
  refine g_istore_n X (lv' := [(1, .int (iI 0)), (0, .ref (μ 0))]) (by decide) rfl dX6_wordsLeft_1 rfl ?_
  refine g_iconst X (z := 0) dX6_wordsLeft_2 rfl ?_
  refine g_istore_n X (lv' := [(2, .int (iI 0)), (1, .int (iI 0)), (0, .ref (μ 0))]) (by decide) rfl dX6_wordsLeft_3 rfl ?_
  refine g_lv (lv' := [(0, .ref (μ 0)), (1, .int (iI 0)), (2, .int (iI 0))]) [2, 1, 0] rfl ?_
  exact lp 9 0 _ _ rfl (by omega) rfl (by omega)
set_option maxRecDepth 100000 in
set_option maxHeartbeats 4000000 in
theorem ct_X6_beginsAnew (l : Launch) (μ : Nat → Nat) (q g : Int → Int) : Ct l yX6_beginsAnew cX6_beginsAnew 2 none 2 0 0 (fun ca av L M => av = [.ref (μ 0)] ∧ MuOk μ L ∧ M (μ 0) = oMd μ q ∧ M (μ 1) = cI ca 110 g ∧ 0 ≤ g 5 ∧ g 5 ≤ 4) (fun ca av L M r L1 M1 => r = none ∧ L = L1 ∧ M1 (μ 1) = cI ca 110 (bgaG g) ∧ ∀ b, b ≠ μ 1 → M1 b = M b) := by
  refine Ct_of (own := RX6) (by decide) rfl (by rintro _ _ _ _ ⟨rfl, _⟩; exact Nat.le_of_ble_eq_true rfl) ?_
  rintro p e s m args below meth c D ca A av L M ⟨rfl, hμ, hMo, hMs, h50, h51⟩ X hret hname
  refine g_lv (lv' := [(0, .ref (μ 0))]) [0] rfl ?_
  generalize hQ : MQ below _ args s _ _ A = Q
  have lp2 : ∀ (n : Nat) (k : Nat) (y : Int) (M1 : Mem) (f : Int → Int) (hy : y = k) (hk : y ≤ g 5) (hf : f = bgaS (clr 64 (up g 4 0)) k) (hMo1 : M1 (μ 0) = oMd μ q) (hMs1 : M1 (μ 1) = cI ca 110 f) (hfr : ∀ b, b ≠ μ 1 → M1 b = M b) (hm : g 5 - y < (n : Int)), G p l e (Rm 2 0 0) s m args below meth c D A 2 Q 0 0 L M1 33 [(0, .ref (μ 0)), (1, .int (iI y))] [] := by
    intro n
    induction n with
    | zero =>
      intro k y M1 f hy hk hf hMo1 hMs1 hfr hm
      exfalso; omega
    | succ n ih =>
      intro k y M1 f hy hk hf hMo1 hMs1 hfr hm
      have f5 : f 5 = g 5 := by rw [hf, bgaS_low _ _ _ (by decide)]; rfl
      refine g_iload_n X 1 rfl dX6_beginsAnew_33 rfl ?_
      refine g_aload_n X 0 rfl dX6_beginsAnew_34 rfl ?_
      refine g_get X cl_X6 0 (by decide) wf_X6_7 rfl (hμ.mem 0 (by decide)) hMo1 rfl dX6_beginsAnew_35 rfl ?_
      refine g_iconst X (z := 5) dX6_beginsAnew_38 rfl ?_
      refine g_iald X (hμ.mem 1 (by decide)) hMs1 ⟨by decide, by decide⟩ (by decide) dX6_beginsAnew_39 rfl ?_
      refine g_icmp_ge X ⟨by omega, by omega⟩ ⟨by omega, by omega⟩ (tgt := 54) dX6_beginsAnew_40 (by decide) rfl (fun h_1 => ?_) (fun h_1 => ?_)
      · subst hQ
        exact g_vret X hret ⟨Nat.le_of_ble_eq_true rfl, Nat.le_of_ble_eq_true rfl⟩ dX6_beginsAnew_54 ⟨rfl, rfl, by rw [hMs1, hf, bgaG, show (g 5).toNat = k from by omega], fun b hb => (hfr b hb)⟩
      · refine g_aload_n X 0 rfl dX6_beginsAnew_43 rfl ?_
        refine g_iload_n X 1 rfl dX6_beginsAnew_44 rfl ?_
        refine g_callV X (ct_X6_begins l μ q f y) (As := [.int (iI y)]) (rest := []) cl_X6 rfl ca_X6_begins rfl wm_X6_65 wi_X6_begins ws_X6_begins wc_X6_begins w0_X6 ⟨by decide, by decide⟩ (hμ.mem 0 (by decide)) hMo1 (by decide) ⟨by decide, by decide⟩ rfl dX6_beginsAnew_45 rfl ⟨rfl, hμ, hMo1, hMs1, by omega, by omega⟩ (fun r1 L1 M_2 hq => ?_)
        obtain ⟨rfl, rfl, hM_3, fr_4⟩ := hq
        have hM_5 : M_2 (μ 0) = .inr (6, [.ref (μ 1), .ref (μ 2), .ref (μ 3), .ref (μ 4), .ref (μ 5), .ref (μ 6), .ref (μ 7), .ref (μ 8), .int (iI (q 0)), .int (iI (q 1)), .int (iI (q 2)), .int (iI (q 3))]) := (fr_4 (μ 0) (hμ.ne (i := 0) (j := 1) (by decide) (by decide) (by decide))).trans hMo1
        refine g_st (st' := []) rfl ?_
        refine g_iinc X (lv' := [(1, .int (iI (y + 1))), (0, .ref (μ 0))]) 1 rfl (by decide) rfl dX6_beginsAnew_48 rfl ?_
        refine g_goto X (n := 33) dX6_beginsAnew_51 (by decide) ?_
        refine g_lv (lv' := [(0, .ref (μ 0)), (1, .int (iI (y + 1)))]) [1, 0] rfl ?_
        exact ih (k + 1) _ _ _ (by omega) (by omega) (by simp only [bgaS]; rw [hf, hy]) hM_5 hM_3 (fun b hb => ((fr_4 b hb).trans (hfr b hb))) (by omega)
  have lp1 : ∀ (n : Nat) (y : Int) (M1 : Mem) (f : Int → Int) (hy0 : 0 ≤ y) (hy1 : y ≤ 64) (hf : f = clr y (up g 4 0)) (hMo1 : M1 (μ 0) = oMd μ q) (hMs1 : M1 (μ 1) = cI ca 110 f) (hfr : ∀ b, b ≠ μ 1 → M1 b = M b) (hm : 64 - y < (n : Int)), G p l e (Rm 2 0 0) s m args below meth c D A 2 Q 0 0 L M1 9 [(0, .ref (μ 0)), (1, .int (iI y))] [] := by
    intro n
    induction n with
    | zero =>
      intro y M1 f hy0 hy1 hf hMo1 hMs1 hfr hm
      exfalso; omega
    | succ n ih =>
      intro y M1 f hy0 hy1 hf hMo1 hMs1 hfr hm
      refine g_iload_n X 1 rfl dX6_beginsAnew_9 rfl ?_
      refine g_bipush X (z := 64) (by decide +kernel) dX6_beginsAnew_10 rfl ?_
      refine g_icmp_ge X ⟨by omega, by omega⟩ ⟨by decide, by decide⟩ (tgt := 31) dX6_beginsAnew_12 (by decide) rfl (fun h_6 => ?_) (fun h_6 => ?_)
      · refine g_iconst X (z := 0) dX6_beginsAnew_31 rfl ?_
        refine g_istore_n X (lv' := [(1, .int (iI 0)), (0, .ref (μ 0))]) (by decide) rfl dX6_beginsAnew_32 rfl ?_
        refine g_lv (lv' := [(0, .ref (μ 0)), (1, .int (iI 0))]) [1, 0] rfl ?_
        exact lp2 9 0 _ _ _ rfl (by omega) (by rw [hf, show y = 64 from by omega]; rfl) hMo1 hMs1 (fun b hb => (hfr b hb)) (by omega)
      · refine g_aload_n X 0 rfl dX6_beginsAnew_15 rfl ?_
        refine g_get X cl_X6 0 (by decide) wf_X6_7 rfl (hμ.mem 0 (by decide)) hMo1 rfl dX6_beginsAnew_16 rfl ?_
        refine g_bipush X (z := 6) (by decide +kernel) dX6_beginsAnew_19 rfl ?_
        refine g_iload_n X 1 rfl dX6_beginsAnew_21 rfl ?_
        refine g_iadd X dX6_beginsAnew_22 rfl ?_
        refine g_iconst X (z := 0) dX6_beginsAnew_23 rfl ?_
        refine g_iast X (hμ.mem 1 (by decide)) hMs1 ⟨by omega, by omega⟩ (by decide) dX6_beginsAnew_24 rfl (fun M_7 hM_8 fr_9 => ?_)
        obtain ⟨g_10, hg_11⟩ : ∃ x : Int → Int, x = up f (6 + y) 0 := ⟨_, rfl⟩
        rw [← hg_11] at hM_8
        have hM_12 : M_7 (μ 0) = .inr (6, [.ref (μ 1), .ref (μ 2), .ref (μ 3), .ref (μ 4), .ref (μ 5), .ref (μ 6), .ref (μ 7), .ref (μ 8), .int (iI (q 0)), .int (iI (q 1)), .int (iI (q 2)), .int (iI (q 3))]) := (fr_9 (μ 0) (hμ.ne (i := 0) (j := 1) (by decide) (by decide) (by decide))).trans hMo1
        refine g_iinc X (lv' := [(1, .int (iI (y + 1))), (0, .ref (μ 0))]) 1 rfl (by decide) rfl dX6_beginsAnew_25 rfl ?_
        refine g_goto X (n := 9) dX6_beginsAnew_28 (by decide) ?_
        refine g_lv (lv' := [(0, .ref (μ 0)), (1, .int (iI (y + 1)))]) [1, 0] rfl ?_
        exact ih _ _ _ (by omega) (by omega) (by rw [hg_11, hf, clr_up _ hy0]) hM_12 hM_8 (fun b hb => ((fr_9 b hb).trans (hfr b hb))) (by omega)
  refine g_aload_n X 0 rfl dX6_beginsAnew_0 rfl ?_
  refine g_get X cl_X6 0 (by decide) wf_X6_7 rfl (hμ.mem 0 (by decide)) hMo rfl dX6_beginsAnew_1 rfl ?_
  refine g_iconst X (z := 4) dX6_beginsAnew_4 rfl ?_
  refine g_iconst X (z := 0) dX6_beginsAnew_5 rfl ?_
  refine g_iast X (hμ.mem 1 (by decide)) hMs ⟨by decide, by decide⟩ (by decide) dX6_beginsAnew_6 rfl (fun M_13 hM_14 fr_15 => ?_)
  obtain ⟨g_16, hg_17⟩ : ∃ x : Int → Int, x = up g 4 0 := ⟨_, rfl⟩
  rw [← hg_17] at hM_14
  have hM_18 : M_13 (μ 0) = .inr (6, [.ref (μ 1), .ref (μ 2), .ref (μ 3), .ref (μ 4), .ref (μ 5), .ref (μ 6), .ref (μ 7), .ref (μ 8), .int (iI (q 0)), .int (iI (q 1)), .int (iI (q 2)), .int (iI (q 3))]) := (fr_15 (μ 0) (hμ.ne (i := 0) (j := 1) (by decide) (by decide) (by decide))).trans hMo
  refine g_iconst X (z := 0) dX6_beginsAnew_7 rfl ?_
  refine g_istore_n X (lv' := [(1, .int (iI 0)), (0, .ref (μ 0))]) (by decide) rfl dX6_beginsAnew_8 rfl ?_
  refine g_lv (lv' := [(0, .ref (μ 0)), (1, .int (iI 0))]) [1, 0] rfl ?_
  exact lp1 70 _ _ _ (by decide) (by decide) (by rw [hg_17, clr_0]) hM_18 hM_14 (fun b hb => (fr_15 b hb)) (by decide)
set_option maxRecDepth 100000 in
set_option maxHeartbeats 4000000 in
theorem ct_X6_cycle (l : Launch) (μ : Nat → Nat) (q g : Int → Int) : Ct l yX6_cycle cX6_cycle 5 (some .int) 4 0 0 (fun ca av L M => av = [.ref (μ 0)] ∧ MuOk μ L ∧ M (μ 0) = oMd μ q ∧ M (μ 1) = cI ca 110 g ∧ Inv g ∧ g 4 < 1000000) (fun ca av L M r L1 M1 => r = some (.int (iI (cycR g))) ∧ L = L1 ∧ M1 (μ 1) = cI ca 110 (cycG g) ∧ ∀ b, b ≠ μ 1 → M1 b = M b) := by
  refine Ct_of (own := RX6) (by decide) rfl (by rintro _ _ _ _ ⟨rfl, _⟩; exact Nat.le_of_ble_eq_true rfl) ?_
  rintro p e s m args below meth c D ca A av L M ⟨rfl, hμ, hMo, hMs, hI, h4⟩ X hret hname
  refine g_lv (lv' := [(0, .ref (μ 0))]) [0] rfl ?_
  generalize hQ : MQ below _ args s _ _ A = Q
  obtain ⟨⟨i00, i01⟩, ⟨i10, i11⟩, ⟨i20, i21⟩, ⟨i30, i31⟩, ⟨i40, i41⟩, i50, i51⟩ := id hI.1
  have hF0 := fstG_rng hI.1
  have lp : ∀ (n : Nat) (k : Nat) (z F y : Int) (M1 : Mem) (f : Int → Int) (hF : F = fstG g) (hy : y = k) (hk : y ≤ g 5) (hf : f = (cycF g F (g 5) k).1) (hz : z = (cycF g F (g 5) k).2) (hMo1 : M1 (μ 0) = oMd μ q) (hMs1 : M1 (μ 1) = cI ca 110 f) (hfr : ∀ b, b ≠ μ 1 → M1 b = M b) (hm : g 5 - y < (n : Int)), G p l e (Rm 4 0 0) s m args below meth c D A 5 Q 0 0 L M1 41 [(0, .ref (μ 0)), (1, .int (iI z)), (2, .int (iI F)), (3, .int (iI y))] [] := by
    intro n
    induction n with
    | zero =>
      intro k z F y M1 f hF hy hk hf hz hMo1 hMs1 hfr hm
      exfalso; omega
    | succ n ih =>
      intro k z F y M1 f hF hy hk hf hz hMo1 hMs1 hfr hm
      obtain ⟨a1, a2, a3, a4, a5⟩ := cycF_ok hI (first := F) (by omega) k (by omega)
      have hfI : Inv f := by rw [hf]; exact a1
      have f5 : f 5 = g 5 := by rw [hf]; exact a2 5 (by decide)
      have f4 : f 4 = g 4 := by rw [hf]; exact a2 4 (by decide)
      refine g_iload_n X 3 rfl dX6_cycle_41 rfl ?_
      refine g_aload_n X 0 rfl dX6_cycle_42 rfl ?_
      refine g_get X cl_X6 0 (by decide) wf_X6_7 rfl (hμ.mem 0 (by decide)) hMo1 rfl dX6_cycle_43 rfl ?_
      refine g_iconst X (z := 5) dX6_cycle_46 rfl ?_
      refine g_iald X (hμ.mem 1 (by decide)) hMs1 ⟨by decide, by decide⟩ (by decide) dX6_cycle_47 rfl ?_
      refine g_icmp_ge X ⟨by omega, by omega⟩ ⟨by omega, by omega⟩ (tgt := 97) dX6_cycle_48 (by decide) rfl (fun h_1 => ?_) (fun h_1 => ?_)
      · refine g_aload_n X 0 rfl dX6_cycle_97 rfl ?_
        refine g_get X cl_X6 0 (by decide) wf_X6_7 rfl (hμ.mem 0 (by decide)) hMo1 rfl dX6_cycle_98 rfl ?_
        refine g_iconst X (z := 4) dX6_cycle_101 rfl ?_
        refine g_dup2 X rfl rfl dX6_cycle_102 rfl ?_
        refine g_iald X (hμ.mem 1 (by decide)) hMs1 ⟨by decide, by decide⟩ (by decide) dX6_cycle_103 rfl ?_
        refine g_iconst X (z := 1) dX6_cycle_104 rfl ?_
        refine g_iadd X dX6_cycle_105 rfl ?_
        refine g_iast X (hμ.mem 1 (by decide)) hMs1 ⟨by decide, by decide⟩ (by decide) dX6_cycle_106 rfl (fun M_2 hM_3 fr_4 => ?_)
        obtain ⟨g_5, hg_6⟩ : ∃ x : Int → Int, x = up f 4 (f 4 + 1) := ⟨_, rfl⟩
        rw [← hg_6] at hM_3
        have hM_7 : M_2 (μ 0) = .inr (6, [.ref (μ 1), .ref (μ 2), .ref (μ 3), .ref (μ 4), .ref (μ 5), .ref (μ 6), .ref (μ 7), .ref (μ 8), .int (iI (q 0)), .int (iI (q 1)), .int (iI (q 2)), .int (iI (q 3))]) := (fr_4 (μ 0) (hμ.ne (i := 0) (j := 1) (by decide) (by decide) (by decide))).trans hMo1
        refine g_iload_n X 1 rfl dX6_cycle_107 rfl ?_
        subst hQ
        exact g_iret X hret ⟨Nat.le_of_ble_eq_true rfl, Nat.le_of_ble_eq_true rfl⟩ dX6_cycle_108 ⟨by rw [hz, cycR, hF, show (g 5).toNat = k from by omega], rfl, by rw [hM_3, hg_6, f4, hf, hF, cycG, show (g 5).toNat = k from by omega], fun b hb => ((fr_4 b hb).trans (hfr b hb))⟩
      · refine g_iload_n X 2 rfl dX6_cycle_51 rfl ?_
        refine g_iload_n X 3 rfl dX6_cycle_52 rfl ?_
        refine g_iadd X dX6_cycle_53 rfl ?_
        refine g_aload_n X 0 rfl dX6_cycle_54 rfl ?_
        refine g_get X cl_X6 0 (by decide) wf_X6_7 rfl (hμ.mem 0 (by decide)) hMo1 rfl dX6_cycle_55 rfl ?_
        refine g_iconst X (z := 5) dX6_cycle_58 rfl ?_
        refine g_iald X (hμ.mem 1 (by decide)) hMs1 ⟨by decide, by decide⟩ (by decide) dX6_cycle_59 rfl ?_
        have m1 := Int.emod_nonneg (F + y) (by omega : f 5 ≠ 0)
        have m2 := Int.emod_lt_of_pos (F + y) (by omega : 0 < f 5)
        have m3 := (hfI.2.2 _ m1 m2).2.2.1
        have m4 := (hfI.2.2 _ m1 m2).2.2.2.1
        refine g_irem X ⟨⟨by omega, by omega⟩, by omega, by omega⟩ dX6_cycle_60 rfl ?_
        refine g_istore X (lv' := [(4, .int (iI ((F + y) % f 5))), (0, .ref (μ 0)), (1, .int (iI z)), (2, .int (iI F)), (3, .int (iI y))]) (by decide) rfl dX6_cycle_61 rfl ?_
        refine g_iload_n X 2 rfl dX6_cycle_63 rfl ?_
        refine g_aload_n X 1 rfl dX6_cycle_64 rfl ?_
        refine g_get X cl_X6 0 (by decide) wf_X6_7 rfl (hμ.mem 0 (by decide)) hMo1 rfl dX6_cycle_65 rfl ?_
        refine g_iload X 0 rfl dX6_cycle_68 rfl ?_
        refine g_callS X (ct_X6_m l ((F + y) % f 5)) (As := [.int (iI ((F + y) % f 5))]) (rest := [.ref (μ 1), .int (iI z)]) rfl ca_X6_m rfl wm_X6_52 wt_X6_m wc_X6_m w0_X6 ⟨by decide, by decide⟩ (Nat.le_of_ble_eq_true rfl) ⟨by decide, by decide⟩ rfl dX6_cycle_70 rfl ⟨rfl, trivial⟩ (fun r1 L1 M1 hq => ?_)
        obtain ⟨rfl, rfl, rfl⟩ := hq
        refine g_st (st' := [.int (iI (70 + 10 * ((F + y) % f 5))), .ref (μ 1), .int (iI z)]) rfl ?_
        refine g_iconst X (z := 3) dX6_cycle_73 rfl ?_
        refine g_iadd X dX6_cycle_74 rfl ?_
        refine g_iald X (hμ.mem 1 (by decide)) hMs1 ⟨by omega, by omega⟩ (by decide) dX6_cycle_75 rfl ?_
        refine g_if_le X ⟨by omega, by omega⟩ (tgt := 88) dX6_cycle_76 (by decide) rfl (fun h_8 => ?_) (fun h_8 => ?_)
        · refine g_iconst X (z := 0) dX6_cycle_88 rfl ?_
          refine g_iadd X dX6_cycle_89 rfl ?_
          refine g_st (st' := [.int (iI z)]) (by rw [Int.add_zero]) ?_
          refine g_istore_n X (lv' := [(1, .int (iI z)), (4, .int (iI ((F + y) % f 5))), (0, .ref (μ 0)), (2, .int (iI F)), (3, .int (iI y))]) (by decide) rfl dX6_cycle_90 rfl ?_
          refine g_iinc X (lv' := [(3, .int (iI (y + 1))), (1, .int (iI z)), (4, .int (iI ((F + y) % f 5))), (0, .ref (μ 0)), (2, .int (iI F))]) 4 rfl (by decide) rfl dX6_cycle_91 rfl ?_
          refine g_goto X (n := 41) dX6_cycle_94 (by decide) ?_
          refine g_lv (lv' := [(0, .ref (μ 0)), (1, .int (iI z)), (2, .int (iI F)), (3, .int (iI (y + 1)))]) [3, 1, 4, 0] rfl ?_
          exact ih (k + 1) _ _ _ _ _ hF (by omega) (by omega) ((cycF_next hf hz hy f5).2 (by omega)).1 ((cycF_next hf hz hy f5).2 (by omega)).2 hMo1 hMs1 (fun b hb => (hfr b hb)) (by omega)
        · refine g_aload_n X 1 rfl dX6_cycle_79 rfl ?_
          refine g_iload X 0 rfl dX6_cycle_80 rfl ?_
          refine g_callV X (ct_X6_asks l μ q f ((F + y) % f 5)) (As := [.int (iI ((F + y) % f 5))]) (rest := [.int (iI z)]) cl_X6 rfl ca_X6_asks rfl wm_X6_62 wi_X6_asks ws_X6_asks wc_X6_asks w0_X6 ⟨by decide, by decide⟩ (hμ.mem 0 (by decide)) hMo1 (Nat.le_of_ble_eq_true rfl) ⟨by decide, by decide⟩ rfl dX6_cycle_82 rfl ⟨rfl, hμ, hMo1, hMs1, hfI, m1, m2, by omega⟩ (fun r1 L1 M_9 hq => ?_)
          obtain ⟨rfl, rfl, hM_10, fr_11⟩ := hq
          have hM_12 : M_9 (μ 0) = .inr (6, [.ref (μ 1), .ref (μ 2), .ref (μ 3), .ref (μ 4), .ref (μ 5), .ref (μ 6), .ref (μ 7), .ref (μ 8), .int (iI (q 0)), .int (iI (q 1)), .int (iI (q 2)), .int (iI (q 3))]) := (fr_11 (μ 0) (hμ.ne (i := 0) (j := 1) (by decide) (by decide) (by decide))).trans hMo1
          refine g_st (st' := [.int (iI (asksR f ((F + y) % f 5))), .int (iI z)]) rfl ?_
          refine g_goto X (n := 89) dX6_cycle_85 (by decide) ?_
          refine g_iadd X dX6_cycle_89 rfl ?_
          refine g_istore_n X (lv' := [(1, .int (iI (z + asksR f ((F + y) % f 5)))), (4, .int (iI ((F + y) % f 5))), (0, .ref (μ 0)), (2, .int (iI F)), (3, .int (iI y))]) (by decide) rfl dX6_cycle_90 rfl ?_
          refine g_iinc X (lv' := [(3, .int (iI (y + 1))), (1, .int (iI (z + asksR f ((F + y) % f 5)))), (4, .int (iI ((F + y) % f 5))), (0, .ref (μ 0)), (2, .int (iI F))]) 4 rfl (by decide) rfl dX6_cycle_91 rfl ?_
          refine g_goto X (n := 41) dX6_cycle_94 (by decide) ?_
          refine g_lv (lv' := [(0, .ref (μ 0)), (1, .int (iI (z + asksR f ((F + y) % f 5)))), (2, .int (iI F)), (3, .int (iI (y + 1)))]) [3, 1, 4, 0] rfl ?_
          exact ih (k + 1) _ _ _ _ _ hF (by omega) (by omega) ((cycF_next hf hz hy f5).1 (by omega)).1 ((cycF_next hf hz hy f5).1 (by omega)).2 hM_12 hM_10 (fun b hb => ((fr_11 b hb).trans (hfr b hb))) (by omega)
  refine g_iconst X (z := 0) dX6_cycle_0 rfl ?_
  refine g_istore_n X (lv' := [(1, .int (iI 0)), (0, .ref (μ 0))]) (by decide) rfl dX6_cycle_1 rfl ?_
  refine g_aload_n X 1 rfl dX6_cycle_2 rfl ?_
  refine g_get X cl_X6 0 (by decide) wf_X6_7 rfl (hμ.mem 0 (by decide)) hMo rfl dX6_cycle_3 rfl ?_
  refine g_iconst X (z := 3) dX6_cycle_6 rfl ?_
  refine g_iald X (hμ.mem 1 (by decide)) hMs ⟨by decide, by decide⟩ (by decide) dX6_cycle_7 rfl ?_
  refine g_iconst X (z := 1) dX6_cycle_8 rfl ?_
  refine g_icmp_ne X ⟨by omega, by omega⟩ ⟨by decide, by decide⟩ (tgt := 37) dX6_cycle_9 (by decide) rfl (fun h_13 => ?_) (fun h_13 => ?_)
  · refine g_iconst X (z := 0) dX6_cycle_37 rfl ?_
    refine g_istore_n X (lv' := [(2, .int (iI 0)), (1, .int (iI 0)), (0, .ref (μ 0))]) (by decide) rfl dX6_cycle_38 rfl ?_
    refine g_iconst X (z := 0) dX6_cycle_39 rfl ?_
    refine g_istore_n X (lv' := [(3, .int (iI 0)), (2, .int (iI 0)), (1, .int (iI 0)), (0, .ref (μ 0))]) (by decide) rfl dX6_cycle_40 rfl ?_
    refine g_lv (lv' := [(0, .ref (μ 0)), (1, .int (iI 0)), (2, .int (iI 0)), (3, .int (iI 0))]) [3, 2, 1, 0] rfl ?_
    exact lp 9 0 _ _ _ _ _ (by rw [fstG, if_neg (by omega)]) rfl (by omega) rfl rfl hMo hMs (fun _ _ => rfl) (by omega)
  · refine g_aload_n X 1 rfl dX6_cycle_12 rfl ?_
    refine g_get X cl_X6 0 (by decide) wf_X6_7 rfl (hμ.mem 0 (by decide)) hMo rfl dX6_cycle_13 rfl ?_
    refine g_iconst X (z := 5) dX6_cycle_16 rfl ?_
    refine g_iald X (hμ.mem 1 (by decide)) hMs ⟨by decide, by decide⟩ (by decide) dX6_cycle_17 rfl ?_
    refine g_if_le X ⟨by omega, by omega⟩ (tgt := 37) dX6_cycle_18 (by decide) rfl (fun h_14 => ?_) (fun h_14 => ?_)
    · refine g_iconst X (z := 0) dX6_cycle_37 rfl ?_
      refine g_istore_n X (lv' := [(2, .int (iI 0)), (1, .int (iI 0)), (0, .ref (μ 0))]) (by decide) rfl dX6_cycle_38 rfl ?_
      refine g_iconst X (z := 0) dX6_cycle_39 rfl ?_
      refine g_istore_n X (lv' := [(3, .int (iI 0)), (2, .int (iI 0)), (1, .int (iI 0)), (0, .ref (μ 0))]) (by decide) rfl dX6_cycle_40 rfl ?_
      refine g_lv (lv' := [(0, .ref (μ 0)), (1, .int (iI 0)), (2, .int (iI 0)), (3, .int (iI 0))]) [3, 2, 1, 0] rfl ?_
      exact lp 9 0 _ _ _ _ _ (by rw [fstG, if_neg (by omega)]) rfl (by omega) rfl rfl hMo hMs (fun _ _ => rfl) (by omega)
    · refine g_aload_n X 1 rfl dX6_cycle_21 rfl ?_
      refine g_get X cl_X6 0 (by decide) wf_X6_7 rfl (hμ.mem 0 (by decide)) hMo rfl dX6_cycle_22 rfl ?_
      refine g_iconst X (z := 4) dX6_cycle_25 rfl ?_
      refine g_iald X (hμ.mem 1 (by decide)) hMs ⟨by decide, by decide⟩ (by decide) dX6_cycle_26 rfl ?_
      refine g_aload_n X 1 rfl dX6_cycle_27 rfl ?_
      refine g_get X cl_X6 0 (by decide) wf_X6_7 rfl (hμ.mem 0 (by decide)) hMo rfl dX6_cycle_28 rfl ?_
      refine g_iconst X (z := 5) dX6_cycle_31 rfl ?_
      refine g_iald X (hμ.mem 1 (by decide)) hMs ⟨by decide, by decide⟩ (by decide) dX6_cycle_32 rfl ?_
      refine g_irem X ⟨⟨by omega, by omega⟩, by omega, by omega⟩ dX6_cycle_33 rfl ?_
      refine g_goto X (n := 38) dX6_cycle_34 (by decide) ?_
      refine g_istore_n X (lv' := [(2, .int (iI (g 4 % g 5))), (1, .int (iI 0)), (0, .ref (μ 0))]) (by decide) rfl dX6_cycle_38 rfl ?_
      refine g_iconst X (z := 0) dX6_cycle_39 rfl ?_
      refine g_istore_n X (lv' := [(3, .int (iI 0)), (2, .int (iI (g 4 % g 5))), (1, .int (iI 0)), (0, .ref (μ 0))]) (by decide) rfl dX6_cycle_40 rfl ?_
      refine g_lv (lv' := [(0, .ref (μ 0)), (1, .int (iI 0)), (2, .int (iI (g 4 % g 5))), (3, .int (iI 0))]) [3, 2, 1, 0] rfl ?_
      exact lp 9 0 _ _ _ _ _ (by rw [fstG, if_pos ⟨by omega, by omega⟩]) rfl (by omega) rfl rfl hMo hMs (fun _ _ => rfl) (by omega)
set_option maxRecDepth 100000 in
set_option maxHeartbeats 4000000 in
theorem ct_X6_runsOut (l : Launch) (μ : Nat → Nat) (q g : Int → Int) : Ct l yX6_runsOut cX6_runsOut 3 (some .int) 5 0 0 (fun ca av L M => av = [.ref (μ 0)] ∧ MuOk μ L ∧ M (μ 0) = oMd μ q ∧ M (μ 1) = cI ca 110 g ∧ Inv g ∧ g 4 ≤ 900000) (fun ca av L M r L1 M1 => r = some (.int (iI (roC 20000 g))) ∧ L = L1 ∧ M1 (μ 1) = cI ca 110 (roS 20000 g) ∧ ∀ b, b ≠ μ 1 → M1 b = M b) := by
  refine Ct_of (own := RX6) (by decide) rfl (by rintro _ _ _ _ ⟨rfl, _⟩; exact Nat.le_of_ble_eq_true rfl) ?_
  rintro p e s m args below meth c D ca A av L M ⟨rfl, hμ, hMo, hMs, hI, h4⟩ X hret hname
  refine g_lv (lv' := [(0, .ref (μ 0))]) [0] rfl ?_
  generalize hQ : MQ below _ args s _ _ A = Q
  have lp : ∀ (n : Nat) (z w : Int) (M1 : Mem) (f : Int → Int) (hfI : Inv f) (hf4 : f 4 + n ≤ 1000000) (hw : 0 ≤ w) (hB : ∀ b, 0 ≤ b → b < 16 → f (6 + 4 * b) - f 4 ≤ w) (hC : z + roC n f = roC 20000 g) (hT : roS n f = roS 20000 g) (hMo1 : M1 (μ 0) = oMd μ q) (hMs1 : M1 (μ 1) = cI ca 110 f) (hfr : ∀ b, b ≠ μ 1 → M1 b = M b) (hm : 13 * wlG f + w < (n : Int)), G p l e (Rm 5 0 0) s m args below meth c D A 3 Q 0 0 L M1 2 [(0, .ref (μ 0)), (1, .int (iI z))] [] := by
    intro n
    induction n with
    | zero =>
      intro z w M1 f hfI hf4 hw hB hC hT hMo1 hMs1 hfr hm
      exfalso; have := wlG_nn hfI; omega
    | succ n ih =>
      intro z w M1 f hfI hf4 hw hB hC hT hMo1 hMs1 hfr hm
      have hwn := wlG_nn hfI
      obtain ⟨⟨i00, i01⟩, ⟨i10, i11⟩, ⟨i20, i21⟩, ⟨i30, i31⟩, ⟨i40, i41⟩, i50, i51⟩ := id hfI.1
      refine g_aload_n X 0 rfl dX6_runsOut_2 rfl ?_
      refine g_callV X (ct_X6_wordsLeft l μ q f) (As := []) (rest := []) cl_X6 rfl ca_X6_wordsLeft rfl wm_X6_69 wi_X6_wordsLeft ws_X6_wordsLeft wc_X6_wordsLeft w0_X6 ⟨by decide, by decide⟩ (hμ.mem 0 (by decide)) hMo1 (by decide) ⟨by decide, by decide⟩ rfl dX6_runsOut_3 rfl ⟨rfl, hμ, hMo1, hMs1, by omega, by omega⟩ (fun r1 L1 M1 hq => ?_)
      obtain ⟨rfl, rfl, rfl⟩ := hq
      refine g_st (st' := [.int (iI (wlG f))]) rfl ?_
      refine g_if_le X ⟨by omega, by omega⟩ (tgt := 20) dX6_runsOut_6 (by decide) rfl (fun h_1 => ?_) (fun h_1 => ?_)
      · refine g_iload_n X 1 rfl dX6_runsOut_20 rfl ?_
        subst hQ
        exact g_iret X hret ⟨Nat.le_of_ble_eq_true rfl, Nat.le_of_ble_eq_true rfl⟩ dX6_runsOut_21 ⟨by rw [← hC, roC, if_neg (by omega), Int.add_zero], rfl, by rw [hMs1, ← hT, roS, if_neg (by omega)], fun b hb => (hfr b hb)⟩
      · refine g_aload_n X 0 rfl dX6_runsOut_9 rfl ?_
        refine g_callV X (ct_X6_cycle l μ q f) (As := []) (rest := []) cl_X6 rfl ca_X6_cycle rfl wm_X6_72 wi_X6_cycle ws_X6_cycle wc_X6_cycle w0_X6 ⟨by decide, by decide⟩ (hμ.mem 0 (by decide)) hMo1 (by decide) ⟨by decide, by decide⟩ rfl dX6_runsOut_10 rfl ⟨rfl, hμ, hMo1, hMs1, hfI, by omega⟩ (fun r1 L1 M_2 hq => ?_)
        obtain ⟨rfl, rfl, hM_3, fr_4⟩ := hq
        have hM_5 : M_2 (μ 0) = .inr (6, [.ref (μ 1), .ref (μ 2), .ref (μ 3), .ref (μ 4), .ref (μ 5), .ref (μ 6), .ref (μ 7), .ref (μ 8), .int (iI (q 0)), .int (iI (q 1)), .int (iI (q 2)), .int (iI (q 3))]) := (fr_4 (μ 0) (hμ.ne (i := 0) (j := 1) (by decide) (by decide) (by decide))).trans hMo1
        refine g_st (st' := [.int (iI (cycR f))]) rfl ?_
        refine g_istore_n X (lv' := [(2, .int (iI (cycR f))), (0, .ref (μ 0)), (1, .int (iI z))]) (by decide) rfl dX6_runsOut_13 rfl ?_
        refine g_iinc X (lv' := [(1, .int (iI (z + 1))), (2, .int (iI (cycR f))), (0, .ref (μ 0))]) 2 rfl (by decide) rfl dX6_runsOut_14 rfl ?_
        refine g_goto X (n := 2) dX6_runsOut_17 (by decide) ?_
        have hwl : wlG f > 0 := by omega
        obtain ⟨w', p1, p2, p3⟩ := cyc_pot hfI (by omega) hw hB hwl
        have co := cyc_ok hfI (by omega)
        refine g_lv (lv' := [(0, .ref (μ 0)), (1, .int (iI (z + 1)))]) [2, 0] rfl ?_
        exact ih _ w' _ _ co.1 (by omega) p1 p2 (by rw [← hC, roC, if_pos hwl]; omega) (by rw [← hT, roS, if_pos hwl]) hM_5 hM_3 (fun b hb => ((fr_4 b hb).trans (hfr b hb))) (by omega)
  refine g_iconst X (z := 0) dX6_runsOut_0 rfl ?_
  refine g_istore_n X (lv' := [(1, .int (iI 0)), (0, .ref (μ 0))]) (by decide) rfl dX6_runsOut_1 rfl ?_
  have hwn := wlG_nn hI
  refine g_lv (lv' := [(0, .ref (μ 0)), (1, .int (iI 0))]) [1, 0] rfl ?_
  exact lp 20000 _ 12 _ _ hI (by omega) (by decide) (fun b h0 h1 => by have := hI.2.1 b h0 h1; omega) (by omega) rfl hMo hMs (fun _ _ => rfl) (by omega)
