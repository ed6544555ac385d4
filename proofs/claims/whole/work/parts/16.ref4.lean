/-! the reference: blocks are copied -/
set_option maxRecDepth 100000 in
set_option maxHeartbeats 4000000 in
theorem ct_X6_hold (l : Launch) (μ : Nat → Nat) (q g : Int → Int) (sp : Int → Int) : Ct l yX6_hold cX6_hold 2 none 0 0 0 (fun ca av L M => av = [.ref (μ 0)] ∧ MuOk μ L ∧ M (μ 0) = oMd μ q ∧ M (μ 1) = cI ca 110 g ∧ M (μ 2) = cI ca 110 sp) (fun ca av L M r L1 M1 => r = none ∧ L = L1 ∧ M1 (μ 2) = cI ca 110 g ∧ ∀ b, b ≠ μ 2 → M1 b = M b) := by
  refine Ct_of (own := RX6) (by decide) rfl (by rintro _ _ _ _ ⟨rfl, _⟩; exact Nat.le_of_ble_eq_true rfl) ?_
  rintro p e s m args below meth c D ca A av L M ⟨rfl, hμ, hMo, hMs, hM2⟩ X hret hname
  refine g_lv (lv' := [(0, .ref (μ 0))]) [0] rfl ?_
  generalize hQ : MQ below _ args s _ _ A = Q
  have lp : ∀ (n : Nat) (y : Int) (M1 : Mem) (f : Int → Int) (hy0 : 0 ≤ y) (hy1 : y ≤ 110) (hf : f = cpy y g sp) (hMo1 : M1 (μ 0) = oMd μ q) (hMr : M1 (μ 1) = cI ca 110 g) (hMd : M1 (μ 2) = cI ca 110 f) (hfr : ∀ b, b ≠ μ 2 → M1 b = M b) (hm : 110 - y < (n : Int)), G p l e (Rm 0 0 0) s m args below meth c D A 2 Q 0 0 L M1 2 [(0, .ref (μ 0)), (1, .int (iI y))] [] := by
    intro n
    induction n with
    | zero =>
      intro y M1 f hy0 hy1 hf hMo1 hMr hMd hfr hm
      exfalso; omega
    | succ n ih =>
      intro y M1 f hy0 hy1 hf hMo1 hMr hMd hfr hm
      refine g_iload_n X 1 rfl dX6_hold_2 rfl ?_
      refine g_bipush X (z := 110) (by decide +kernel) dX6_hold_3 rfl ?_
      refine g_icmp_ge X ⟨by omega, by omega⟩ ⟨by decide, by decide⟩ (tgt := 26) dX6_hold_5 (by decide) rfl (fun h_1 => ?_) (fun h_1 => ?_)
      · subst hQ
        exact g_vret X hret ⟨Nat.le_of_ble_eq_true rfl, Nat.le_of_ble_eq_true rfl⟩ dX6_hold_26 ⟨rfl, rfl, (hMd).trans (cI_ext (fun k h0 h1 => by rw [hf, cpy_in (by omega) (by omega)])), fun b hb => (hfr b hb)⟩
      · refine g_aload_n X 0 rfl dX6_hold_8 rfl ?_
        refine g_get X cl_X6 1 (by decide) wf_X6_13 rfl (hμ.mem 0 (by decide)) hMo1 rfl dX6_hold_9 rfl ?_
        refine g_iload_n X 1 rfl dX6_hold_12 rfl ?_
        refine g_aload_n X 0 rfl dX6_hold_13 rfl ?_
        refine g_get X cl_X6 0 (by decide) wf_X6_7 rfl (hμ.mem 0 (by decide)) hMo1 rfl dX6_hold_14 rfl ?_
        refine g_iload_n X 1 rfl dX6_hold_17 rfl ?_
        refine g_iald X (hμ.mem 1 (by decide)) hMr ⟨by omega, by omega⟩ (by decide) dX6_hold_18 rfl ?_
        refine g_iast X (hμ.mem 2 (by decide)) hMd ⟨by omega, by omega⟩ (by decide) dX6_hold_19 rfl (fun M_2 hM_3 fr_4 => ?_)
        obtain ⟨g_5, hg_6⟩ : ∃ x : Int → Int, x = up f y (g y) := ⟨_, rfl⟩
        rw [← hg_6] at hM_3
        have hM_7 : M_2 (μ 0) = .inr (6, [.ref (μ 1), .ref (μ 2), .ref (μ 3), .ref (μ 4), .ref (μ 5), .ref (μ 6), .ref (μ 7), .ref (μ 8), .int (iI (q 0)), .int (iI (q 1)), .int (iI (q 2)), .int (iI (q 3))]) := (fr_4 (μ 0) (hμ.ne (i := 0) (j := 2) (by decide) (by decide) (by decide))).trans hMo1
        have hM_8 : M_2 (μ 1) = cI ca 110 g := (fr_4 (μ 1) (hμ.ne (i := 1) (j := 2) (by decide) (by decide) (by decide))).trans hMr
        refine g_iinc X (lv' := [(1, .int (iI (y + 1))), (0, .ref (μ 0))]) 1 rfl (by decide) rfl dX6_hold_20 rfl ?_
        refine g_goto X (n := 2) dX6_hold_23 (by decide) ?_
        refine g_lv (lv' := [(0, .ref (μ 0)), (1, .int (iI (y + 1)))]) [1, 0] rfl ?_
        exact ih _ _ _ (by omega) (by omega) (by rw [hg_6, hf, cpy_up _ _ hy0]) hM_7 hM_8 hM_3 (fun b hb => ((fr_4 b hb).trans (hfr b hb))) (by omega)
  refine g_iconst X (z := 0) dX6_hold_0 rfl ?_
  refine g_istore_n X (lv' := [(1, .int (iI 0)), (0, .ref (μ 0))]) (by decide) rfl dX6_hold_1 rfl ?_
  refine g_lv (lv' := [(0, .ref (μ 0)), (1, .int (iI 0))]) [1, 0] rfl ?_
  exact lp 120 _ _ _ (by decide) (by decide) (by rw [cpy_0]) hMo hMs hM2 (fun _ _ => rfl) (by decide)
set_option maxRecDepth 100000 in
set_option maxHeartbeats 4000000 in
theorem ct_X6_keepTrial (l : Launch) (μ : Nat → Nat) (q g : Int → Int) (tr : Int → Int) : Ct l yX6_keepTrial cX6_keepTrial 2 none 0 0 0 (fun ca av L M => av = [.ref (μ 0)] ∧ MuOk μ L ∧ M (μ 0) = oMd μ q ∧ M (μ 1) = cI ca 110 g ∧ M (μ 3) = cI ca 110 tr) (fun ca av L M r L1 M1 => r = none ∧ L = L1 ∧ M1 (μ 3) = cI ca 110 g ∧ ∀ b, b ≠ μ 3 → M1 b = M b) := by
  refine Ct_of (own := RX6) (by decide) rfl (by rintro _ _ _ _ ⟨rfl, _⟩; exact Nat.le_of_ble_eq_true rfl) ?_
  rintro p e s m args below meth c D ca A av L M ⟨rfl, hμ, hMo, hMs, hM3⟩ X hret hname
  refine g_lv (lv' := [(0, .ref (μ 0))]) [0] rfl ?_
  generalize hQ : MQ below _ args s _ _ A = Q
  have lp : ∀ (n : Nat) (y : Int) (M1 : Mem) (f : Int → Int) (hy0 : 0 ≤ y) (hy1 : y ≤ 110) (hf : f = cpy y g tr) (hMo1 : M1 (μ 0) = oMd μ q) (hMr : M1 (μ 1) = cI ca 110 g) (hMd : M1 (μ 3) = cI ca 110 f) (hfr : ∀ b, b ≠ μ 3 → M1 b = M b) (hm : 110 - y < (n : Int)), G p l e (Rm 0 0 0) s m args below meth c D A 2 Q 0 0 L M1 2 [(0, .ref (μ 0)), (1, .int (iI y))] [] := by
    intro n
    induction n with
    | zero =>
      intro y M1 f hy0 hy1 hf hMo1 hMr hMd hfr hm
      exfalso; omega
    | succ n ih =>
      intro y M1 f hy0 hy1 hf hMo1 hMr hMd hfr hm
      refine g_iload_n X 1 rfl dX6_keepTrial_2 rfl ?_
      refine g_bipush X (z := 110) (by decide +kernel) dX6_keepTrial_3 rfl ?_
      refine g_icmp_ge X ⟨by omega, by omega⟩ ⟨by decide, by decide⟩ (tgt := 26) dX6_keepTrial_5 (by decide) rfl (fun h_1 => ?_) (fun h_1 => ?_)
      · subst hQ
        exact g_vret X hret ⟨Nat.le_of_ble_eq_true rfl, Nat.le_of_ble_eq_true rfl⟩ dX6_keepTrial_26 ⟨rfl, rfl, (hMd).trans (cI_ext (fun k h0 h1 => by rw [hf, cpy_in (by omega) (by omega)])), fun b hb => (hfr b hb)⟩
      · refine g_aload_n X 0 rfl dX6_keepTrial_8 rfl ?_
        refine g_get X cl_X6 2 (by decide) wf_X6_16 rfl (hμ.mem 0 (by decide)) hMo1 rfl dX6_keepTrial_9 rfl ?_
        refine g_iload_n X 1 rfl dX6_keepTrial_12 rfl ?_
        refine g_aload_n X 0 rfl dX6_keepTrial_13 rfl ?_
        refine g_get X cl_X6 0 (by decide) wf_X6_7 rfl (hμ.mem 0 (by decide)) hMo1 rfl dX6_keepTrial_14 rfl ?_
        refine g_iload_n X 1 rfl dX6_keepTrial_17 rfl ?_
        refine g_iald X (hμ.mem 1 (by decide)) hMr ⟨by omega, by omega⟩ (by decide) dX6_keepTrial_18 rfl ?_
        refine g_iast X (hμ.mem 3 (by decide)) hMd ⟨by omega, by omega⟩ (by decide) dX6_keepTrial_19 rfl (fun M_2 hM_3 fr_4 => ?_)
        obtain ⟨g_5, hg_6⟩ : ∃ x : Int → Int, x = up f y (g y) := ⟨_, rfl⟩
        rw [← hg_6] at hM_3
        have hM_7 : M_2 (μ 0) = .inr (6, [.ref (μ 1), .ref (μ 2), .ref (μ 3), .ref (μ 4), .ref (μ 5), .ref (μ 6), .ref (μ 7), .ref (μ 8), .int (iI (q 0)), .int (iI (q 1)), .int (iI (q 2)), .int (iI (q 3))]) := (fr_4 (μ 0) (hμ.ne (i := 0) (j := 3) (by decide) (by decide) (by decide))).trans hMo1
        have hM_8 : M_2 (μ 1) = cI ca 110 g := (fr_4 (μ 1) (hμ.ne (i := 1) (j := 3) (by decide) (by decide) (by decide))).trans hMr
        refine g_iinc X (lv' := [(1, .int (iI (y + 1))), (0, .ref (μ 0))]) 1 rfl (by decide) rfl dX6_keepTrial_20 rfl ?_
        refine g_goto X (n := 2) dX6_keepTrial_23 (by decide) ?_
        refine g_lv (lv' := [(0, .ref (μ 0)), (1, .int (iI (y + 1)))]) [1, 0] rfl ?_
        exact ih _ _ _ (by omega) (by omega) (by rw [hg_6, hf, cpy_up _ _ hy0]) hM_7 hM_8 hM_3 (fun b hb => ((fr_4 b hb).trans (hfr b hb))) (by omega)
  refine g_iconst X (z := 0) dX6_keepTrial_0 rfl ?_
  refine g_istore_n X (lv' := [(1, .int (iI 0)), (0, .ref (μ 0))]) (by decide) rfl dX6_keepTrial_1 rfl ?_
  refine g_lv (lv' := [(0, .ref (μ 0)), (1, .int (iI 0))]) [1, 0] rfl ?_
  exact lp 120 _ _ _ (by decide) (by decide) (by rw [cpy_0]) hMo hMs hM3 (fun _ _ => rfl) (by decide)
set_option maxRecDepth 100000 in
set_option maxHeartbeats 4000000 in
theorem ct_X6_putBack (l : Launch) (μ : Nat → Nat) (q g : Int → Int) (tr : Int → Int) : Ct l yX6_putBack cX6_putBack 2 none 0 0 0 (fun ca av L M => av = [.ref (μ 0)] ∧ MuOk μ L ∧ M (μ 0) = oMd μ q ∧ M (μ 1) = cI ca 110 g ∧ M (μ 3) = cI ca 110 tr) (fun ca av L M r L1 M1 => r = none ∧ L = L1 ∧ M1 (μ 1) = cI ca 110 tr ∧ ∀ b, b ≠ μ 1 → M1 b = M b) := by
  refine Ct_of (own := RX6) (by decide) rfl (by rintro _ _ _ _ ⟨rfl, _⟩; exact Nat.le_of_ble_eq_true rfl) ?_
  rintro p e s m args below meth c D ca A av L M ⟨rfl, hμ, hMo, hMs, hM3⟩ X hret hname
  refine g_lv (lv' := [(0, .ref (μ 0))]) [0] rfl ?_
  generalize hQ : MQ below _ args s _ _ A = Q
  have lp : ∀ (n : Nat) (y : Int) (M1 : Mem) (f : Int → Int) (hy0 : 0 ≤ y) (hy1 : y ≤ 110) (hf : f = cpy y tr g) (hMo1 : M1 (μ 0) = oMd μ q) (hMr : M1 (μ 3) = cI ca 110 tr) (hMd : M1 (μ 1) = cI ca 110 f) (hfr : ∀ b, b ≠ μ 1 → M1 b = M b) (hm : 110 - y < (n : Int)), G p l e (Rm 0 0 0) s m args below meth c D A 2 Q 0 0 L M1 2 [(0, .ref (μ 0)), (1, .int (iI y))] [] := by
    intro n
    induction n with
    | zero =>
      intro y M1 f hy0 hy1 hf hMo1 hMr hMd hfr hm
      exfalso; omega
    | succ n ih =>
      intro y M1 f hy0 hy1 hf hMo1 hMr hMd hfr hm
      refine g_iload_n X 1 rfl dX6_putBack_2 rfl ?_
      refine g_bipush X (z := 110) (by decide +kernel) dX6_putBack_3 rfl ?_
      refine g_icmp_ge X ⟨by omega, by omega⟩ ⟨by decide, by decide⟩ (tgt := 26) dX6_putBack_5 (by decide) rfl (fun h_1 => ?_) (fun h_1 => ?_)
      · subst hQ
        exact g_vret X hret ⟨Nat.le_of_ble_eq_true rfl, Nat.le_of_ble_eq_true rfl⟩ dX6_putBack_26 ⟨rfl, rfl, (hMd).trans (cI_ext (fun k h0 h1 => by rw [hf, cpy_in (by omega) (by omega)])), fun b hb => (hfr b hb)⟩
      · refine g_aload_n X 0 rfl dX6_putBack_8 rfl ?_
        refine g_get X cl_X6 0 (by decide) wf_X6_7 rfl (hμ.mem 0 (by decide)) hMo1 rfl dX6_putBack_9 rfl ?_
        refine g_iload_n X 1 rfl dX6_putBack_12 rfl ?_
        refine g_aload_n X 0 rfl dX6_putBack_13 rfl ?_
        refine g_get X cl_X6 2 (by decide) wf_X6_16 rfl (hμ.mem 0 (by decide)) hMo1 rfl dX6_putBack_14 rfl ?_
        refine g_iload_n X 1 rfl dX6_putBack_17 rfl ?_
        refine g_iald X (hμ.mem 3 (by decide)) hMr ⟨by omega, by omega⟩ (by decide) dX6_putBack_18 rfl ?_
        refine g_iast X (hμ.mem 1 (by decide)) hMd ⟨by omega, by omega⟩ (by decide) dX6_putBack_19 rfl (fun M_2 hM_3 fr_4 => ?_)
        obtain ⟨g_5, hg_6⟩ : ∃ x : Int → Int, x = up f y (tr y) := ⟨_, rfl⟩
        rw [← hg_6] at hM_3
        have hM_7 : M_2 (μ 0) = .inr (6, [.ref (μ 1), .ref (μ 2), .ref (μ 3), .ref (μ 4), .ref (μ 5), .ref (μ 6), .ref (μ 7), .ref (μ 8), .int (iI (q 0)), .int (iI (q 1)), .int (iI (q 2)), .int (iI (q 3))]) := (fr_4 (μ 0) (hμ.ne (i := 0) (j := 1) (by decide) (by decide) (by decide))).trans hMo1
        have hM_8 : M_2 (μ 3) = cI ca 110 tr := (fr_4 (μ 3) (hμ.ne (i := 3) (j := 1) (by decide) (by decide) (by decide))).trans hMr
        refine g_iinc X (lv' := [(1, .int (iI (y + 1))), (0, .ref (μ 0))]) 1 rfl (by decide) rfl dX6_putBack_20 rfl ?_
        refine g_goto X (n := 2) dX6_putBack_23 (by decide) ?_
        refine g_lv (lv' := [(0, .ref (μ 0)), (1, .int (iI (y + 1)))]) [1, 0] rfl ?_
        exact ih _ _ _ (by omega) (by omega) (by rw [hg_6, hf, cpy_up _ _ hy0]) hM_7 hM_8 hM_3 (fun b hb => ((fr_4 b hb).trans (hfr b hb))) (by omega)
  refine g_iconst X (z := 0) dX6_putBack_0 rfl ?_
  refine g_istore_n X (lv' := [(1, .int (iI 0)), (0, .ref (μ 0))]) (by decide) rfl dX6_putBack_1 rfl ?_
  refine g_lv (lv' := [(0, .ref (μ 0)), (1, .int (iI 0))]) [1, 0] rfl ?_
  exact lp 120 _ _ _ (by decide) (by decide) (by rw [cpy_0]) hMo hM3 hMs (fun _ _ => rfl) (by decide)
set_option maxRecDepth 100000 in
set_option maxHeartbeats 4000000 in
theorem ct_X6_recorded (l : Launch) (μ : Nat → Nat) (q g : Int → Int) (sp be : Int → Int) (v : Int) : Ct l yX6_recorded cX6_recorded 3 (some .int) 0 0 0 (fun ca av L M => av = [.ref (μ 0), .int (iI v)] ∧ MuOk μ L ∧ M (μ 0) = oMd μ q ∧ M (μ 1) = cI ca 110 g ∧ M (μ 2) = cI ca 110 sp ∧ M (μ 4) = cI ca 660 be ∧ 0 ≤ q 1 ∧ q 1 ≤ 6) (fun ca av L M r L1 M1 => r = some (.int (iI v)) ∧ L = L1 ∧ M1 (μ 0) = oMd μ (up q 1 (recN (q 1))) ∧ M1 (μ 4) = cI ca 660 (recB (q 1) be sp) ∧ ∀ b, b ≠ μ 0 → b ≠ μ 4 → M1 b = M b) := by
  refine Ct_of (own := RX6) (by decide) rfl (by rintro _ _ _ _ ⟨rfl, _⟩; exact Nat.le_of_ble_eq_true rfl) ?_
  rintro p e s m args below meth c D ca A av L M ⟨rfl, hμ, hMo, hMs, hM2, hM4, hs0, hs1⟩ X hret hname
  refine g_lv (lv' := [(0, .ref (μ 0)), (1, .int (iI v))]) [0, 1] rfl ?_
  generalize hQ : MQ below _ args s _ _ A = Q
  have lp2 : ∀ (n : Nat) (t y : Int) (M1 : Mem) (f : Int → Int) (ht : t = recT (q 1)) (hy0 : 0 ≤ y) (hy1 : y ≤ 110) (hf : f = pbl y (110 * t) (recE (q 1) be) sp) (hMo1 : M1 (μ 0) = .inr (6, [.ref (μ 1), .ref (μ 2), .ref (μ 3), .ref (μ 4), .ref (μ 5), .ref (μ 6), .ref (μ 7), .ref (μ 8), .int (iI (q 0)), .int (iI t), .int (iI (q 2)), .int (iI (q 3))])) (hMr : M1 (μ 2) = cI ca 110 sp) (hMd : M1 (μ 4) = cI ca 660 f) (hfr : ∀ b, b ≠ μ 0 → b ≠ μ 4 → M1 b = M b) (hm : 110 - y < (n : Int)), G p l e (Rm 0 0 0) s m args below meth c D A 3 Q 0 0 L M1 51 [(0, .ref (μ 0)), (1, .int (iI v)), (2, .int (iI y))] [] := by
    intro n
    induction n with
    | zero =>
      intro t y M1 f ht hy0 hy1 hf hMo1 hMr hMd hfr hm
      exfalso; omega
    | succ n ih =>
      intro t y M1 f ht hy0 hy1 hf hMo1 hMr hMd hfr hm
      have ht0 : 0 ≤ t ∧ t ≤ 5 := by rw [ht]; unfold recT; split <;> omega
      refine g_iload_n X 2 rfl dX6_recorded_51 rfl ?_
      refine g_bipush X (z := 110) (by decide +kernel) dX6_recorded_52 rfl ?_
      refine g_icmp_ge X ⟨by omega, by omega⟩ ⟨by decide, by decide⟩ (tgt := 83) dX6_recorded_54 (by decide) rfl (fun h_1 => ?_) (fun h_1 => ?_)
      · refine g_aload_n X 0 rfl dX6_recorded_83 rfl ?_
        refine g_dup X rfl dX6_recorded_84 rfl ?_
        refine g_get X cl_X6 9 (by decide) wf_X6_40 rfl (hμ.mem 0 (by decide)) hMo1 rfl dX6_recorded_85 rfl ?_
        refine g_iconst X (z := 1) dX6_recorded_88 rfl ?_
        refine g_iadd X dX6_recorded_89 rfl ?_
        refine g_put X cl_X6 9 (by decide) wf_X6_40 rfl (hμ.mem 0 (by decide)) hMo1 rfl rfl rfl (Nat.le_of_ble_eq_true rfl) (fs' := [.ref (μ 1), .ref (μ 2), .ref (μ 3), .ref (μ 4), .ref (μ 5), .ref (μ 6), .ref (μ 7), .ref (μ 8), .int (iI (q 0)), .int (iI (t + 1)), .int (iI (q 2)), .int (iI (q 3))]) rfl dX6_recorded_90 rfl (fun M_2 hM_3 fr_4 => ?_)
        have hM_5 : M_2 (μ 2) = cI ca 110 sp := (fr_4 (μ 2) (hμ.ne (i := 2) (j := 0) (by decide) (by decide) (by decide))).trans hMr
        have hM_6 : M_2 (μ 4) = cI ca 660 f := (fr_4 (μ 4) (hμ.ne (i := 4) (j := 0) (by decide) (by decide) (by decide))).trans hMd
        refine g_iload_n X 1 rfl dX6_recorded_93 rfl ?_
        subst hQ
        exact g_iret X hret ⟨Nat.le_of_ble_eq_true rfl, Nat.le_of_ble_eq_true rfl⟩ dX6_recorded_94 ⟨rfl, rfl, (hM_3).trans (by rw [oMd_up1, recN, ht]), (hM_6).trans (by rw [hf, show y = 110 from by omega, recB, ht]), fun b hb hb4 => ((fr_4 b hb).trans (hfr b hb hb4))⟩
      · refine g_aload_n X 0 rfl dX6_recorded_57 rfl ?_
        refine g_get X cl_X6 3 (by decide) wf_X6_19 rfl (hμ.mem 0 (by decide)) hMo1 rfl dX6_recorded_58 rfl ?_
        refine g_bipush X (z := 110) (by decide +kernel) dX6_recorded_61 rfl ?_
        refine g_aload_n X 0 rfl dX6_recorded_63 rfl ?_
        refine g_get X cl_X6 9 (by decide) wf_X6_40 rfl (hμ.mem 0 (by decide)) hMo1 rfl dX6_recorded_64 rfl ?_
        refine g_imul X dX6_recorded_67 rfl ?_
        refine g_iload_n X 2 rfl dX6_recorded_68 rfl ?_
        refine g_iadd X dX6_recorded_69 rfl ?_
        refine g_aload_n X 0 rfl dX6_recorded_70 rfl ?_
        refine g_get X cl_X6 1 (by decide) wf_X6_13 rfl (hμ.mem 0 (by decide)) hMo1 rfl dX6_recorded_71 rfl ?_
        refine g_iload_n X 2 rfl dX6_recorded_74 rfl ?_
        refine g_iald X (hμ.mem 2 (by decide)) hMr ⟨by omega, by omega⟩ (by decide) dX6_recorded_75 rfl ?_
        refine g_iast X (hμ.mem 4 (by decide)) hMd ⟨by omega, by omega⟩ (by decide) dX6_recorded_76 rfl (fun M_7 hM_8 fr_9 => ?_)
        obtain ⟨g_10, hg_11⟩ : ∃ x : Int → Int, x = up f ((110 * t) + y) (sp y) := ⟨_, rfl⟩
        rw [← hg_11] at hM_8
        have hM_12 : M_7 (μ 0) = .inr (6, [.ref (μ 1), .ref (μ 2), .ref (μ 3), .ref (μ 4), .ref (μ 5), .ref (μ 6), .ref (μ 7), .ref (μ 8), .int (iI (q 0)), .int (iI t), .int (iI (q 2)), .int (iI (q 3))]) := (fr_9 (μ 0) (hμ.ne (i := 0) (j := 4) (by decide) (by decide) (by decide))).trans hMo1
        have hM_13 : M_7 (μ 2) = cI ca 110 sp := (fr_9 (μ 2) (hμ.ne (i := 2) (j := 4) (by decide) (by decide) (by decide))).trans hMr
        refine g_iinc X (lv' := [(2, .int (iI (y + 1))), (0, .ref (μ 0)), (1, .int (iI v))]) 2 rfl (by decide) rfl dX6_recorded_77 rfl ?_
        refine g_goto X (n := 51) dX6_recorded_80 (by decide) ?_
        refine g_lv (lv' := [(0, .ref (μ 0)), (1, .int (iI v)), (2, .int (iI (y + 1)))]) [1, 2, 0] rfl ?_
        exact ih _ _ _ _ ht (by omega) (by omega) (by rw [hg_11, hf, pbl_up _ _ hy0]) hM_12 hM_13 hM_8 (fun b hb hb4 => ((fr_9 b hb4).trans (hfr b hb hb4))) (by omega)
  have lp1 : ∀ (n : Nat) (y : Int) (M1 : Mem) (f : Int → Int) (hy0 : 0 ≤ y) (hy1 : y ≤ 550) (hf : f = shf y be) (hMo1 : M1 (μ 0) = oMd μ q) (hMr : M1 (μ 2) = cI ca 110 sp) (hMd : M1 (μ 4) = cI ca 660 f) (hfr : ∀ b, b ≠ μ 4 → M1 b = M b) (hq6 : q 1 = 6) (hm : 550 - y < (n : Int)), G p l e (Rm 0 0 0) s m args below meth c D A 3 Q 0 0 L M1 11 [(0, .ref (μ 0)), (1, .int (iI v)), (2, .int (iI y))] [] := by
    intro n
    induction n with
    | zero =>
      intro y M1 f hy0 hy1 hf hMo1 hMr hMd hfr hq6 hm
      exfalso; omega
    | succ n ih =>
      intro y M1 f hy0 hy1 hf hMo1 hMr hMd hfr hq6 hm
      refine g_iload_n X 2 rfl dX6_recorded_11 rfl ?_
      refine g_sipush X (z := 550) (by decide +kernel) dX6_recorded_12 rfl ?_
      refine g_icmp_ge X ⟨by omega, by omega⟩ ⟨by decide, by decide⟩ (tgt := 39) dX6_recorded_15 (by decide) rfl (fun h_14 => ?_) (fun h_14 => ?_)
      · refine g_aload_n X 0 rfl dX6_recorded_39 rfl ?_
        refine g_dup X rfl dX6_recorded_40 rfl ?_
        refine g_get X cl_X6 9 (by decide) wf_X6_40 rfl (hμ.mem 0 (by decide)) hMo1 rfl dX6_recorded_41 rfl ?_
        refine g_iconst X (z := 1) dX6_recorded_44 rfl ?_
        refine g_isub X dX6_recorded_45 rfl ?_
        refine g_put X cl_X6 9 (by decide) wf_X6_40 rfl (hμ.mem 0 (by decide)) hMo1 rfl rfl rfl (Nat.le_of_ble_eq_true rfl) (fs' := [.ref (μ 1), .ref (μ 2), .ref (μ 3), .ref (μ 4), .ref (μ 5), .ref (μ 6), .ref (μ 7), .ref (μ 8), .int (iI (q 0)), .int (iI (q 1 - 1)), .int (iI (q 2)), .int (iI (q 3))]) rfl dX6_recorded_46 rfl (fun M_15 hM_16 fr_17 => ?_)
        have hM_18 : M_15 (μ 2) = cI ca 110 sp := (fr_17 (μ 2) (hμ.ne (i := 2) (j := 0) (by decide) (by decide) (by decide))).trans hMr
        have hM_19 : M_15 (μ 4) = cI ca 660 f := (fr_17 (μ 4) (hμ.ne (i := 4) (j := 0) (by decide) (by decide) (by decide))).trans hMd
        refine g_iconst X (z := 0) dX6_recorded_49 rfl ?_
        refine g_istore_n X (lv' := [(2, .int (iI 0)), (0, .ref (μ 0)), (1, .int (iI v))]) (by decide) rfl dX6_recorded_50 rfl ?_
        refine g_lv (lv' := [(0, .ref (μ 0)), (1, .int (iI v)), (2, .int (iI 0))]) [1, 2, 0] rfl ?_
        exact lp2 120 _ _ _ _ (by rw [recT, if_pos (by omega)]) (by decide) (by decide) (by rw [pbl_0, recE, if_pos (by omega), hf, show y = 550 from by omega]) hM_16 hM_18 hM_19 (fun b hb hb4 => ((fr_17 b hb).trans (hfr b hb4))) (by decide)
      · refine g_aload_n X 0 rfl dX6_recorded_18 rfl ?_
        refine g_get X cl_X6 3 (by decide) wf_X6_19 rfl (hμ.mem 0 (by decide)) hMo1 rfl dX6_recorded_19 rfl ?_
        refine g_iload_n X 2 rfl dX6_recorded_22 rfl ?_
        refine g_aload_n X 0 rfl dX6_recorded_23 rfl ?_
        refine g_get X cl_X6 3 (by decide) wf_X6_19 rfl (hμ.mem 0 (by decide)) hMo1 rfl dX6_recorded_24 rfl ?_
        refine g_bipush X (z := 110) (by decide +kernel) dX6_recorded_27 rfl ?_
        refine g_iload_n X 2 rfl dX6_recorded_29 rfl ?_
        refine g_iadd X dX6_recorded_30 rfl ?_
        refine g_iald X (hμ.mem 4 (by decide)) hMd ⟨by omega, by omega⟩ (by decide) dX6_recorded_31 rfl ?_
        refine g_iast X (hμ.mem 4 (by decide)) hMd ⟨by omega, by omega⟩ (by decide) dX6_recorded_32 rfl (fun M_20 hM_21 fr_22 => ?_)
        obtain ⟨g_23, hg_24⟩ : ∃ x : Int → Int, x = up f y (f (110 + y)) := ⟨_, rfl⟩
        rw [← hg_24] at hM_21
        have hM_25 : M_20 (μ 0) = .inr (6, [.ref (μ 1), .ref (μ 2), .ref (μ 3), .ref (μ 4), .ref (μ 5), .ref (μ 6), .ref (μ 7), .ref (μ 8), .int (iI (q 0)), .int (iI (q 1)), .int (iI (q 2)), .int (iI (q 3))]) := (fr_22 (μ 0) (hμ.ne (i := 0) (j := 4) (by decide) (by decide) (by decide))).trans hMo1
        have hM_26 : M_20 (μ 2) = cI ca 110 sp := (fr_22 (μ 2) (hμ.ne (i := 2) (j := 4) (by decide) (by decide) (by decide))).trans hMr
        refine g_iinc X (lv' := [(2, .int (iI (y + 1))), (0, .ref (μ 0)), (1, .int (iI v))]) 2 rfl (by decide) rfl dX6_recorded_33 rfl ?_
        refine g_goto X (n := 11) dX6_recorded_36 (by decide) ?_
        refine g_lv (lv' := [(0, .ref (μ 0)), (1, .int (iI v)), (2, .int (iI (y + 1)))]) [1, 2, 0] rfl ?_
        exact ih _ _ _ (by omega) (by omega) (by rw [hg_24, hf, shf_hi _ (by omega), shf_up _ hy0]) hM_25 hM_26 hM_21 (fun b hb4 => ((fr_22 b hb4).trans (hfr b hb4))) hq6 (by omega)
  refine g_aload_n X 0 rfl dX6_recorded_0 rfl ?_
  refine g_get X cl_X6 9 (by decide) wf_X6_40 rfl (hμ.mem 0 (by decide)) hMo rfl dX6_recorded_1 rfl ?_
  refine g_bipush X (z := 6) (by decide +kernel) dX6_recorded_4 rfl ?_
  refine g_icmp_ne X ⟨by omega, by omega⟩ ⟨by decide, by decide⟩ (tgt := 49) dX6_recorded_6 (by decide) rfl (fun h_27 => ?_) (fun h_27 => ?_)
  · refine g_iconst X (z := 0) dX6_recorded_49 rfl ?_
    refine g_istore_n X (lv' := [(2, .int (iI 0)), (0, .ref (μ 0)), (1, .int (iI v))]) (by decide) rfl dX6_recorded_50 rfl ?_
    refine g_lv (lv' := [(0, .ref (μ 0)), (1, .int (iI v)), (2, .int (iI 0))]) [1, 2, 0] rfl ?_
    exact lp2 120 _ _ _ _ (by rw [recT, if_neg (by omega)]) (by decide) (by decide) (by rw [pbl_0, recE, if_neg (by omega)]) hMo hM2 hM4 (fun _ _ _ => rfl) (by decide)
  · refine g_iconst X (z := 0) dX6_recorded_9 rfl ?_
    refine g_istore_n X (lv' := [(2, .int (iI 0)), (0, .ref (μ 0)), (1, .int (iI v))]) (by decide) rfl dX6_recorded_10 rfl ?_
    refine g_lv (lv' := [(0, .ref (μ 0)), (1, .int (iI v)), (2, .int (iI 0))]) [1, 2, 0] rfl ?_
    exact lp1 560 _ _ _ (by decide) (by decide) (by rw [shf_0]) hMo hM2 hM4 (fun _ _ => rfl) (by omega) (by decide)
theorem ite_iff {c d : Prop} [Decidable c] [Decidable d] (h : c ↔ d) : (if c then (1 : Int) else 0) = if d then 1 else 0 := by
  by_cases hc : c
  · rw [if_pos hc, if_pos (h.mp hc)]
  · rw [if_neg hc, if_neg (fun q => hc (h.mpr q))]
set_option maxRecDepth 100000 in
set_option maxHeartbeats 4000000 in
theorem ct_X6_isSetting (l : Launch) (k v : Int) : Ct l yX6_isSetting cX6_isSetting 2 (some .boolean) 1 0 0 (fun ca av L M => av = [.int (iI k), .int (iI v)] ∧ R32 k ∧ R32 v) (fun ca av L M r L1 M1 => r = some (.int (iI (if isSet k v then 1 else 0))) ∧ L = L1 ∧ M = M1) := by
  refine Ct_of (own := RX6) (by decide) rfl (by rintro _ _ _ _ ⟨rfl, _⟩; exact Nat.le_of_ble_eq_true rfl) ?_
  rintro p e s m args below meth c D ca A av L M ⟨rfl, hk, hv⟩ X hret hname
  refine g_lv (lv' := [(0, .int (iI k)), (1, .int (iI v))]) [0, 1] rfl ?_
  refine g_iload_n X 0 rfl dX6_isSetting_0 rfl ?_
  by_cases h_1 : 0 ≤ k ∧ k ≤ 3
  · have h_1a : k = 0 ∨ k = 1 ∨ k = 2 ∨ k = 3 := by omega
    rcases h_1a with h_1a | h_1a | h_1a | h_1a
    · refine g_tsIn X dX6_isSetting_1 hk 0 h_1a (by decide) (by decide) rfl (by decide : _ = ((32 : Nat) : Int)) ?_
      refine g_iload_n X 1 rfl dX6_isSetting_32 rfl ?_
      refine g_iconst X (z := 2) dX6_isSetting_33 rfl ?_
      refine g_bipush X (z := 16) (by decide +kernel) dX6_isSetting_34 rfl ?_
      refine g_callS X (ct_X6_in l v 2 16) (As := [.int (iI v), .int (iI 2), .int (iI 16)]) (rest := []) rfl ca_X6_in rfl wm_X6_36 wt_X6_in wc_X6_in w0_X6 ⟨by decide, by decide⟩ (by decide) ⟨by decide, by decide⟩ rfl dX6_isSetting_36 rfl ⟨rfl, hv, ⟨by decide, by decide⟩, ⟨by decide, by decide⟩⟩ (fun r1 L1 M1 hq => ?_)
      obtain ⟨rfl, rfl, rfl⟩ := hq
      refine g_st (st' := [.int (iI (if 2 ≤ v ∧ v ≤ 16 then 1 else 0))]) rfl ?_
      exact g_zret X hret nar_ite ⟨Nat.le_of_ble_eq_true rfl, Nat.le_of_ble_eq_true rfl⟩ dX6_isSetting_39 ⟨by rw [show (if 2 ≤ v ∧ v ≤ 16 then (1 : Int) else 0) = if isSet k v then 1 else 0 from ite_iff (by unfold isSet; omega)], rfl, rfl⟩
    · refine g_tsIn X dX6_isSetting_1 hk 1 h_1a (by decide) (by decide) rfl (by decide : _ = ((40 : Nat) : Int)) ?_
      refine g_iload_n X 1 rfl dX6_isSetting_40 rfl ?_
      refine g_iconst X (z := 1) dX6_isSetting_41 rfl ?_
      refine g_bipush X (z := 12) (by decide +kernel) dX6_isSetting_42 rfl ?_
      refine g_callS X (ct_X6_in l v 1 12) (As := [.int (iI v), .int (iI 1), .int (iI 12)]) (rest := []) rfl ca_X6_in rfl wm_X6_36 wt_X6_in wc_X6_in w0_X6 ⟨by decide, by decide⟩ (by decide) ⟨by decide, by decide⟩ rfl dX6_isSetting_44 rfl ⟨rfl, hv, ⟨by decide, by decide⟩, ⟨by decide, by decide⟩⟩ (fun r1 L1 M1 hq => ?_)
      obtain ⟨rfl, rfl, rfl⟩ := hq
      refine g_st (st' := [.int (iI (if 1 ≤ v ∧ v ≤ 12 then 1 else 0))]) rfl ?_
      exact g_zret X hret nar_ite ⟨Nat.le_of_ble_eq_true rfl, Nat.le_of_ble_eq_true rfl⟩ dX6_isSetting_47 ⟨by rw [show (if 1 ≤ v ∧ v ≤ 12 then (1 : Int) else 0) = if isSet k v then 1 else 0 from ite_iff (by unfold isSet; omega)], rfl, rfl⟩
    · refine g_tsIn X dX6_isSetting_1 hk 2 h_1a (by decide) (by decide) rfl (by decide : _ = ((48 : Nat) : Int)) ?_
      refine g_iload_n X 1 rfl dX6_isSetting_48 rfl ?_
      refine g_iconst X (z := 0) dX6_isSetting_49 rfl ?_
      refine g_iconst X (z := 2) dX6_isSetting_50 rfl ?_
      refine g_callS X (ct_X6_in l v 0 2) (As := [.int (iI v), .int (iI 0), .int (iI 2)]) (rest := []) rfl ca_X6_in rfl wm_X6_36 wt_X6_in wc_X6_in w0_X6 ⟨by decide, by decide⟩ (by decide) ⟨by decide, by decide⟩ rfl dX6_isSetting_51 rfl ⟨rfl, hv, ⟨by decide, by decide⟩, ⟨by decide, by decide⟩⟩ (fun r1 L1 M1 hq => ?_)
      obtain ⟨rfl, rfl, rfl⟩ := hq
      refine g_st (st' := [.int (iI (if 0 ≤ v ∧ v ≤ 2 then 1 else 0))]) rfl ?_
      exact g_zret X hret nar_ite ⟨Nat.le_of_ble_eq_true rfl, Nat.le_of_ble_eq_true rfl⟩ dX6_isSetting_54 ⟨by rw [show (if 0 ≤ v ∧ v ≤ 2 then (1 : Int) else 0) = if isSet k v then 1 else 0 from ite_iff (by unfold isSet; omega)], rfl, rfl⟩
    · refine g_tsIn X dX6_isSetting_1 hk 3 h_1a (by decide) (by decide) rfl (by decide : _ = ((55 : Nat) : Int)) ?_
      refine g_iload_n X 1 rfl dX6_isSetting_55 rfl ?_
      refine g_iconst X (z := 0) dX6_isSetting_56 rfl ?_
      refine g_iconst X (z := 1) dX6_isSetting_57 rfl ?_
      refine g_callS X (ct_X6_in l v 0 1) (As := [.int (iI v), .int (iI 0), .int (iI 1)]) (rest := []) rfl ca_X6_in rfl wm_X6_36 wt_X6_in wc_X6_in w0_X6 ⟨by decide, by decide⟩ (by decide) ⟨by decide, by decide⟩ rfl dX6_isSetting_58 rfl ⟨rfl, hv, ⟨by decide, by decide⟩, ⟨by decide, by decide⟩⟩ (fun r1 L1 M1 hq => ?_)
      obtain ⟨rfl, rfl, rfl⟩ := hq
      refine g_st (st' := [.int (iI (if 0 ≤ v ∧ v ≤ 1 then 1 else 0))]) rfl ?_
      exact g_zret X hret nar_ite ⟨Nat.le_of_ble_eq_true rfl, Nat.le_of_ble_eq_true rfl⟩ dX6_isSetting_61 ⟨by rw [show (if 0 ≤ v ∧ v ≤ 1 then (1 : Int) else 0) = if isSet k v then 1 else 0 from ite_iff (by unfold isSet; omega)], rfl, rfl⟩
  · refine g_tsOut X dX6_isSetting_1 hk (by omega) (by decide : _ = ((62 : Nat) : Int)) ?_
    refine g_iconst X (z := 0) dX6_isSetting_62 rfl ?_
    exact g_zret X hret (by rfl) ⟨Nat.le_of_ble_eq_true rfl, Nat.le_of_ble_eq_true rfl⟩ dX6_isSetting_63 ⟨by rw [if_neg (by unfold isSet; omega)], rfl, rfl⟩
