/-! the reference: streams of the pad, its fault, read -/
set_option maxRecDepth 100000 in
set_option maxHeartbeats 4000000 in
theorem ct_X6_readsStream (l : Launch) (μ : Nat → Nat) (q g : Int → Int) (pa rd : Int → Int) : Ct l yX6_readsStream cX6_readsStream 2 (some .boolean) 2 0 0 (fun ca av L M => av = [.ref (μ 0)] ∧ MuOk μ L ∧ M (μ 0) = oMd μ q ∧ M (μ 1) = cI ca 110 g ∧ M (μ 8) = cC ca 60 pa ∧ InvP pa ∧ (0 ≤ q 0 ∧ q 0 ≤ 60) ∧ (0 ≤ q 3 ∧ q 3 ≤ 60) ∧ M (μ 7) = cI ca 33 rd ∧ (0 ≤ q 2 ∧ q 2 ≤ 10)) (fun ca av L M r L1 M1 => r = some (.int (iI (if rsT pa (q 0) (q 3) then 1 else 0))) ∧ L = L1 ∧ M1 (μ 0) = oMd μ (up (up q 2 (rsS pa (q 0) (rd, q 2, q 3)).2.1) 3 (rsS pa (q 0) (rd, q 2, q 3)).2.2) ∧ M1 (μ 7) = cI ca 33 (rsS pa (q 0) (rd, q 2, q 3)).1 ∧ ∀ b, b ≠ μ 0 → b ≠ μ 7 → M1 b = M b) := by
  refine Ct_of (own := RX6) (by decide) rfl (by rintro _ _ _ _ ⟨rfl, _⟩; exact Nat.le_of_ble_eq_true rfl) ?_
  rintro p e s m args below meth c D ca A av L M ⟨rfl, hμ, hMo, hMs, hM8, hP, hq0, hq3, hM7, hq2⟩ X hret hname
  refine g_lv (lv' := [(0, .ref (μ 0))]) [0] rfl ?_
  refine g_aload_n X 0 rfl dX6_readsStream_0 rfl ?_
  refine g_iconst X (z := 0) dX6_readsStream_1 rfl ?_
  refine g_iconst X (z := 0) dX6_readsStream_2 rfl ?_
  refine g_sipush X (z := 4095) (by decide +kernel) dX6_readsStream_3 rfl ?_
  refine g_callV X (ct_X6_number l μ q g pa rd 0 0 4095) (As := [.int (iI 0), .int (iI 0), .int (iI 4095)]) (rest := []) cl_X6 rfl ca_X6_number rfl wm_X6_109 wi_X6_number ws_X6_number wc_X6_number w0_X6 ⟨by decide, by decide⟩ (hμ.mem 0 (by decide)) hMo (by decide) ⟨by decide, by decide⟩ rfl dX6_readsStream_6 rfl ⟨rfl, hμ, hMo, hMs, hM8, hP, hq0, (show 0 ≤ q 3 ∧ q 3 ≤ 60 from by omega), hM7, by decide, (show 0 ≤ q 2 ∧ 3 * (q 2) + 0 ≤ 32 from by omega), by decide, by decide⟩ (fun r1 L1 M_1 hq => ?_)
  obtain ⟨rfl, rfl, hM_2, hM_3, fr_4⟩ := hq
  have hM_5 : M_1 (μ 0) = .inr (6, [.ref (μ 1), .ref (μ 2), .ref (μ 3), .ref (μ 4), .ref (μ 5), .ref (μ 6), .ref (μ 7), .ref (μ 8), .int (iI (q 0)), .int (iI (q 1)), .int (iI (q 2)), .int (iI (if nmT pa (q 0) (q 3) 0 then nmA pa (q 0) (q 3) 4095 else q 3))]) := hM_2
  have hM_6 : M_1 (μ 7) = cI ca 33 (up rd (3 * (q 2) + 0) (if nmT pa (q 0) (q 3) 0 then nmV pa (q 0) (q 3) 4095 else 0)) := hM_3
  have hM_7 : M_1 (μ 1) = cI ca 110 g := (fr_4 _ (hμ.ne (i := 1) (j := 0) (by decide) (by decide) (by decide)) (hμ.ne (i := 1) (j := 7) (by decide) (by decide) (by decide))).trans hMs
  have hM_8 : M_1 (μ 8) = cC ca 60 pa := (fr_4 _ (hμ.ne (i := 8) (j := 0) (by decide) (by decide) (by decide)) (hμ.ne (i := 8) (j := 7) (by decide) (by decide) (by decide))).trans hM8
  refine g_st (st' := [.int (iI (if nmT pa (q 0) (q 3) 0 then 1 else 0))]) rfl ?_
  refine g_if_eqb X (tgt := 58) dX6_readsStream_9 (by decide) rfl (fun h_9 => ?_) (fun h_9 => ?_)
  · rw [if_neg h_9] at hM_5 hM_6
    refine g_iconst X (z := 0) dX6_readsStream_58 rfl ?_
    refine g_istore_n X (lv' := [(1, .int (iI 0)), (0, .ref (μ 0))]) (by decide) rfl dX6_readsStream_59 rfl ?_
    refine g_aload_n X 1 rfl dX6_readsStream_60 rfl ?_
    refine g_dup X rfl dX6_readsStream_61 rfl ?_
    refine g_get X cl_X6 10 (by decide) wf_X6_106 rfl (hμ.mem 0 (by decide)) hM_5 rfl dX6_readsStream_62 rfl ?_
    refine g_iload_n X 0 rfl dX6_readsStream_65 rfl ?_
    refine g_if_eq X ⟨by decide, by decide⟩ (tgt := 73) dX6_readsStream_66 (by decide) rfl (fun _ => ?_) (fun h => absurd (by decide) h)
    refine g_iconst X (z := 0) dX6_readsStream_73 rfl ?_
    refine g_iadd X dX6_readsStream_74 rfl ?_
    refine g_st (st' := [.int (iI (q 2)), .ref (μ 0)]) (by rw [Int.add_zero]) ?_
    refine g_put X cl_X6 10 (by decide) wf_X6_106 rfl (hμ.mem 0 (by decide)) hM_5 rfl rfl rfl (Nat.le_of_ble_eq_true rfl) (fs' := [.ref (μ 1), .ref (μ 2), .ref (μ 3), .ref (μ 4), .ref (μ 5), .ref (μ 6), .ref (μ 7), .ref (μ 8), .int (iI (q 0)), .int (iI (q 1)), .int (iI (q 2)), .int (iI (q 3))]) rfl dX6_readsStream_75 rfl (fun M_11 hM_12 fr_13 => ?_)
    have hM_14 : M_11 (μ 1) = cI ca 110 g := (fr_13 (μ 1) (hμ.ne (i := 1) (j := 0) (by decide) (by decide) (by decide))).trans hM_7
    have hM_15 : M_11 (μ 8) = cC ca 60 pa := (fr_13 (μ 8) (hμ.ne (i := 8) (j := 0) (by decide) (by decide) (by decide))).trans hM_8
    have hM_16 : M_11 (μ 7) = cI ca 33 (up rd (3 * (q 2) + 0) 0) := (fr_13 (μ 7) (hμ.ne (i := 7) (j := 0) (by decide) (by decide) (by decide))).trans hM_6
    refine g_iload_n X 0 rfl dX6_readsStream_78 rfl ?_
    exact g_zret X hret (by rfl) ⟨Nat.le_of_ble_eq_true rfl, Nat.le_of_ble_eq_true rfl⟩ dX6_readsStream_79 ⟨by rw [if_neg (fun q => h_9 q.1)], rfl, (hM_12).trans (by unfold rsS; dsimp only; rw [if_pos h_9]; rfl), (hM_16).trans (by unfold rsS; dsimp only; rw [if_pos h_9]), fun b hb hb7 => ((fr_13 b hb).trans (fr_4 b hb hb7))⟩
  · rw [if_pos h_9] at hM_5 hM_6
    have hn_17 := nm_rng (hi := 4095) hq0.2 (by decide) (by omega) h_9
    refine g_aload_n X 0 rfl dX6_readsStream_12 rfl ?_
    refine g_bipush X (z := 43) (by decide +kernel) dX6_readsStream_13 rfl ?_
    refine g_callV X (ct_X6_accepts l μ (up q 3 (nmA pa (q 0) (q 3) 4095)) g pa 43) (As := [.int (iI 43)]) (rest := []) cl_X6 rfl ca_X6_accepts rfl wm_X6_112 wi_X6_accepts ws_X6_accepts wc_X6_accepts w0_X6 ⟨by decide, by decide⟩ (hμ.mem 0 (by decide)) hM_5 (by decide) ⟨by decide, by decide⟩ rfl dX6_readsStream_15 rfl ⟨rfl, hμ, hM_5, hM_7, hM_8, hP, hq0, (show 0 ≤ nmA pa (q 0) (q 3) 4095 ∧ nmA pa (q 0) (q 3) 4095 ≤ 60 from by omega), ⟨by decide, by decide⟩⟩ (fun r1 L1 M_18 hq => ?_)
    obtain ⟨rfl, rfl, hM_19, fr_20⟩ := hq
    have hM_21 : M_18 (μ 0) = .inr (6, [.ref (μ 1), .ref (μ 2), .ref (μ 3), .ref (μ 4), .ref (μ 5), .ref (μ 6), .ref (μ 7), .ref (μ 8), .int (iI (q 0)), .int (iI (q 1)), .int (iI (q 2)), .int (iI (nmA pa (q 0) (q 3) 4095 + if isSg pa (q 0) (nmA pa (q 0) (q 3) 4095) 43 43 then 1 else 0))]) := hM_19
    have hM_22 : M_18 (μ 1) = cI ca 110 g := (fr_20 _ (hμ.ne (i := 1) (j := 0) (by decide) (by decide) (by decide))).trans hM_7
    have hM_23 : M_18 (μ 8) = cC ca 60 pa := (fr_20 _ (hμ.ne (i := 8) (j := 0) (by decide) (by decide) (by decide))).trans hM_8
    have hM_24 : M_18 (μ 7) = cI ca 33 (up rd (3 * (q 2) + 0) (nmV pa (q 0) (q 3) 4095)) := (fr_20 _ (hμ.ne (i := 7) (j := 0) (by decide) (by decide) (by decide))).trans hM_6
    refine g_st (st' := [.int (iI (if isSg pa (q 0) (nmA pa (q 0) (q 3) 4095) 43 43 then 1 else 0))]) rfl ?_
    refine g_if_eqb X (tgt := 58) dX6_readsStream_18 (by decide) rfl (fun h_25 => ?_) (fun h_25 => ?_)
    · rw [if_neg h_25, Int.add_zero] at hM_21
      refine g_iconst X (z := 0) dX6_readsStream_58 rfl ?_
      refine g_istore_n X (lv' := [(1, .int (iI 0)), (0, .ref (μ 0))]) (by decide) rfl dX6_readsStream_59 rfl ?_
      refine g_aload_n X 1 rfl dX6_readsStream_60 rfl ?_
      refine g_dup X rfl dX6_readsStream_61 rfl ?_
      refine g_get X cl_X6 10 (by decide) wf_X6_106 rfl (hμ.mem 0 (by decide)) hM_21 rfl dX6_readsStream_62 rfl ?_
      refine g_iload_n X 0 rfl dX6_readsStream_65 rfl ?_
      refine g_if_eq X ⟨by decide, by decide⟩ (tgt := 73) dX6_readsStream_66 (by decide) rfl (fun _ => ?_) (fun h => absurd (by decide) h)
      refine g_iconst X (z := 0) dX6_readsStream_73 rfl ?_
      refine g_iadd X dX6_readsStream_74 rfl ?_
      refine g_st (st' := [.int (iI (q 2)), .ref (μ 0)]) (by rw [Int.add_zero]) ?_
      refine g_put X cl_X6 10 (by decide) wf_X6_106 rfl (hμ.mem 0 (by decide)) hM_21 rfl rfl rfl (Nat.le_of_ble_eq_true rfl) (fs' := [.ref (μ 1), .ref (μ 2), .ref (μ 3), .ref (μ 4), .ref (μ 5), .ref (μ 6), .ref (μ 7), .ref (μ 8), .int (iI (q 0)), .int (iI (q 1)), .int (iI (q 2)), .int (iI (nmA pa (q 0) (q 3) 4095))]) rfl dX6_readsStream_75 rfl (fun M_27 hM_28 fr_29 => ?_)
      have hM_30 : M_27 (μ 1) = cI ca 110 g := (fr_29 (μ 1) (hμ.ne (i := 1) (j := 0) (by decide) (by decide) (by decide))).trans hM_22
      have hM_31 : M_27 (μ 8) = cC ca 60 pa := (fr_29 (μ 8) (hμ.ne (i := 8) (j := 0) (by decide) (by decide) (by decide))).trans hM_23
      have hM_32 : M_27 (μ 7) = cI ca 33 (up rd (3 * (q 2) + 0) (nmV pa (q 0) (q 3) 4095)) := (fr_29 (μ 7) (hμ.ne (i := 7) (j := 0) (by decide) (by decide) (by decide))).trans hM_24
      refine g_iload_n X 0 rfl dX6_readsStream_78 rfl ?_
      exact g_zret X hret (by rfl) ⟨Nat.le_of_ble_eq_true rfl, Nat.le_of_ble_eq_true rfl⟩ dX6_readsStream_79 ⟨by rw [if_neg (fun q => h_25 q.2.1)], rfl, (hM_28).trans (by unfold rsS; dsimp only; rw [if_neg (not_not_intro h_9), if_pos h_25]; rfl), (hM_32).trans (by unfold rsS; dsimp only; rw [if_neg (not_not_intro h_9), if_pos h_25]), fun b hb hb7 => ((fr_29 b hb).trans ((fr_20 b hb).trans (fr_4 b hb hb7)))⟩
    · rw [if_pos h_25] at hM_21
      refine g_aload_n X 0 rfl dX6_readsStream_21 rfl ?_
      refine g_iconst X (z := 1) dX6_readsStream_22 rfl ?_
      refine g_iconst X (z := 0) dX6_readsStream_23 rfl ?_
      refine g_sipush X (z := 1023) (by decide +kernel) dX6_readsStream_24 rfl ?_
      refine g_callV X (ct_X6_number l μ (up q 3 (nmA pa (q 0) (q 3) 4095 + 1)) g pa (up rd (3 * (q 2) + 0) (nmV pa (q 0) (q 3) 4095)) 1 0 1023) (As := [.int (iI 1), .int (iI 0), .int (iI 1023)]) (rest := []) cl_X6 rfl ca_X6_number rfl wm_X6_109 wi_X6_number ws_X6_number wc_X6_number w0_X6 ⟨by decide, by decide⟩ (hμ.mem 0 (by decide)) hM_21 (by decide) ⟨by decide, by decide⟩ rfl dX6_readsStream_27 rfl ⟨rfl, hμ, hM_21, hM_22, hM_23, hP, hq0, (show 0 ≤ nmA pa (q 0) (q 3) 4095 + 1 ∧ (nmA pa (q 0) (q 3) 4095 + 1) ≤ 60 from by omega), hM_24, by decide, (show 0 ≤ q 2 ∧ 3 * (q 2) + 1 ≤ 32 from by omega), by decide, by decide⟩ (fun r1 L1 M_33 hq => ?_)
      obtain ⟨rfl, rfl, hM_34, hM_35, fr_36⟩ := hq
      have hM_37 : M_33 (μ 0) = .inr (6, [.ref (μ 1), .ref (μ 2), .ref (μ 3), .ref (μ 4), .ref (μ 5), .ref (μ 6), .ref (μ 7), .ref (μ 8), .int (iI (q 0)), .int (iI (q 1)), .int (iI (q 2)), .int (iI (if nmT pa (q 0) (nmA pa (q 0) (q 3) 4095 + 1) 0 then nmA pa (q 0) (nmA pa (q 0) (q 3) 4095 + 1) 1023 else nmA pa (q 0) (q 3) 4095 + 1))]) := hM_34
      have hM_38 : M_33 (μ 7) = cI ca 33 (up (up rd (3 * (q 2) + 0) (nmV pa (q 0) (q 3) 4095)) (3 * (q 2) + 1) (if nmT pa (q 0) (nmA pa (q 0) (q 3) 4095 + 1) 0 then nmV pa (q 0) (nmA pa (q 0) (q 3) 4095 + 1) 1023 else 0)) := hM_35
      have hM_39 : M_33 (μ 1) = cI ca 110 g := (fr_36 _ (hμ.ne (i := 1) (j := 0) (by decide) (by decide) (by decide)) (hμ.ne (i := 1) (j := 7) (by decide) (by decide) (by decide))).trans hM_22
      have hM_40 : M_33 (μ 8) = cC ca 60 pa := (fr_36 _ (hμ.ne (i := 8) (j := 0) (by decide) (by decide) (by decide)) (hμ.ne (i := 8) (j := 7) (by decide) (by decide) (by decide))).trans hM_23
      refine g_st (st' := [.int (iI (if nmT pa (q 0) (nmA pa (q 0) (q 3) 4095 + 1) 0 then 1 else 0))]) rfl ?_
      refine g_if_eqb X (tgt := 58) dX6_readsStream_30 (by decide) rfl (fun h_41 => ?_) (fun h_41 => ?_)
      · rw [if_neg h_41] at hM_37 hM_38
        refine g_iconst X (z := 0) dX6_readsStream_58 rfl ?_
        refine g_istore_n X (lv' := [(1, .int (iI 0)), (0, .ref (μ 0))]) (by decide) rfl dX6_readsStream_59 rfl ?_
        refine g_aload_n X 1 rfl dX6_readsStream_60 rfl ?_
        refine g_dup X rfl dX6_readsStream_61 rfl ?_
        refine g_get X cl_X6 10 (by decide) wf_X6_106 rfl (hμ.mem 0 (by decide)) hM_37 rfl dX6_readsStream_62 rfl ?_
        refine g_iload_n X 0 rfl dX6_readsStream_65 rfl ?_
        refine g_if_eq X ⟨by decide, by decide⟩ (tgt := 73) dX6_readsStream_66 (by decide) rfl (fun _ => ?_) (fun h => absurd (by decide) h)
        refine g_iconst X (z := 0) dX6_readsStream_73 rfl ?_
        refine g_iadd X dX6_readsStream_74 rfl ?_
        refine g_st (st' := [.int (iI (q 2)), .ref (μ 0)]) (by rw [Int.add_zero]) ?_
        refine g_put X cl_X6 10 (by decide) wf_X6_106 rfl (hμ.mem 0 (by decide)) hM_37 rfl rfl rfl (Nat.le_of_ble_eq_true rfl) (fs' := [.ref (μ 1), .ref (μ 2), .ref (μ 3), .ref (μ 4), .ref (μ 5), .ref (μ 6), .ref (μ 7), .ref (μ 8), .int (iI (q 0)), .int (iI (q 1)), .int (iI (q 2)), .int (iI (nmA pa (q 0) (q 3) 4095 + 1))]) rfl dX6_readsStream_75 rfl (fun M_43 hM_44 fr_45 => ?_)
        have hM_46 : M_43 (μ 1) = cI ca 110 g := (fr_45 (μ 1) (hμ.ne (i := 1) (j := 0) (by decide) (by decide) (by decide))).trans hM_39
        have hM_47 : M_43 (μ 8) = cC ca 60 pa := (fr_45 (μ 8) (hμ.ne (i := 8) (j := 0) (by decide) (by decide) (by decide))).trans hM_40
        have hM_48 : M_43 (μ 7) = cI ca 33 (up (up rd (3 * (q 2) + 0) (nmV pa (q 0) (q 3) 4095)) (3 * (q 2) + 1) 0) := (fr_45 (μ 7) (hμ.ne (i := 7) (j := 0) (by decide) (by decide) (by decide))).trans hM_38
        refine g_iload_n X 0 rfl dX6_readsStream_78 rfl ?_
        exact g_zret X hret (by rfl) ⟨Nat.le_of_ble_eq_true rfl, Nat.le_of_ble_eq_true rfl⟩ dX6_readsStream_79 ⟨by rw [if_neg (fun q => h_41 q.2.2.1)], rfl, (hM_44).trans (by unfold rsS; dsimp only; rw [if_neg (not_not_intro h_9), if_neg (not_not_intro h_25), if_pos h_41]; rfl), (hM_48).trans (by unfold rsS; dsimp only; rw [if_neg (not_not_intro h_9), if_neg (not_not_intro h_25), if_pos h_41]), fun b hb hb7 => ((fr_45 b hb).trans ((fr_36 b hb hb7).trans ((fr_20 b hb).trans (fr_4 b hb hb7))))⟩
      · rw [if_pos h_41] at hM_37 hM_38
        have hn_49 := nm_rng (hi := 1023) hq0.2 (by decide) (by omega) h_41
        refine g_aload_n X 0 rfl dX6_readsStream_33 rfl ?_
        refine g_bipush X (z := 42) (by decide +kernel) dX6_readsStream_34 rfl ?_
        refine g_callV X (ct_X6_accepts l μ (up q 3 (nmA pa (q 0) (nmA pa (q 0) (q 3) 4095 + 1) 1023)) g pa 42) (As := [.int (iI 42)]) (rest := []) cl_X6 rfl ca_X6_accepts rfl wm_X6_112 wi_X6_accepts ws_X6_accepts wc_X6_accepts w0_X6 ⟨by decide, by decide⟩ (hμ.mem 0 (by decide)) hM_37 (by decide) ⟨by decide, by decide⟩ rfl dX6_readsStream_36 rfl ⟨rfl, hμ, hM_37, hM_39, hM_40, hP, hq0, (show 0 ≤ nmA pa (q 0) (nmA pa (q 0) (q 3) 4095 + 1) 1023 ∧ nmA pa (q 0) (nmA pa (q 0) (q 3) 4095 + 1) 1023 ≤ 60 from by omega), ⟨by decide, by decide⟩⟩ (fun r1 L1 M_50 hq => ?_)
        obtain ⟨rfl, rfl, hM_51, fr_52⟩ := hq
        have hM_53 : M_50 (μ 0) = .inr (6, [.ref (μ 1), .ref (μ 2), .ref (μ 3), .ref (μ 4), .ref (μ 5), .ref (μ 6), .ref (μ 7), .ref (μ 8), .int (iI (q 0)), .int (iI (q 1)), .int (iI (q 2)), .int (iI (nmA pa (q 0) (nmA pa (q 0) (q 3) 4095 + 1) 1023 + if isSg pa (q 0) (nmA pa (q 0) (nmA pa (q 0) (q 3) 4095 + 1) 1023) 42 42 then 1 else 0))]) := hM_51
        have hM_54 : M_50 (μ 1) = cI ca 110 g := (fr_52 _ (hμ.ne (i := 1) (j := 0) (by decide) (by decide) (by decide))).trans hM_39
        have hM_55 : M_50 (μ 8) = cC ca 60 pa := (fr_52 _ (hμ.ne (i := 8) (j := 0) (by decide) (by decide) (by decide))).trans hM_40
        have hM_56 : M_50 (μ 7) = cI ca 33 (up (up rd (3 * (q 2) + 0) (nmV pa (q 0) (q 3) 4095)) (3 * (q 2) + 1) (nmV pa (q 0) (nmA pa (q 0) (q 3) 4095 + 1) 1023)) := (fr_52 _ (hμ.ne (i := 7) (j := 0) (by decide) (by decide) (by decide))).trans hM_38
        refine g_st (st' := [.int (iI (if isSg pa (q 0) (nmA pa (q 0) (nmA pa (q 0) (q 3) 4095 + 1) 1023) 42 42 then 1 else 0))]) rfl ?_
        refine g_if_eqb X (tgt := 58) dX6_readsStream_39 (by decide) rfl (fun h_57 => ?_) (fun h_57 => ?_)
        · rw [if_neg h_57, Int.add_zero] at hM_53
          refine g_iconst X (z := 0) dX6_readsStream_58 rfl ?_
          refine g_istore_n X (lv' := [(1, .int (iI 0)), (0, .ref (μ 0))]) (by decide) rfl dX6_readsStream_59 rfl ?_
          refine g_aload_n X 1 rfl dX6_readsStream_60 rfl ?_
          refine g_dup X rfl dX6_readsStream_61 rfl ?_
          refine g_get X cl_X6 10 (by decide) wf_X6_106 rfl (hμ.mem 0 (by decide)) hM_53 rfl dX6_readsStream_62 rfl ?_
          refine g_iload_n X 0 rfl dX6_readsStream_65 rfl ?_
          refine g_if_eq X ⟨by decide, by decide⟩ (tgt := 73) dX6_readsStream_66 (by decide) rfl (fun _ => ?_) (fun h => absurd (by decide) h)
          refine g_iconst X (z := 0) dX6_readsStream_73 rfl ?_
          refine g_iadd X dX6_readsStream_74 rfl ?_
          refine g_st (st' := [.int (iI (q 2)), .ref (μ 0)]) (by rw [Int.add_zero]) ?_
          refine g_put X cl_X6 10 (by decide) wf_X6_106 rfl (hμ.mem 0 (by decide)) hM_53 rfl rfl rfl (Nat.le_of_ble_eq_true rfl) (fs' := [.ref (μ 1), .ref (μ 2), .ref (μ 3), .ref (μ 4), .ref (μ 5), .ref (μ 6), .ref (μ 7), .ref (μ 8), .int (iI (q 0)), .int (iI (q 1)), .int (iI (q 2)), .int (iI (nmA pa (q 0) (nmA pa (q 0) (q 3) 4095 + 1) 1023))]) rfl dX6_readsStream_75 rfl (fun M_59 hM_60 fr_61 => ?_)
          have hM_62 : M_59 (μ 1) = cI ca 110 g := (fr_61 (μ 1) (hμ.ne (i := 1) (j := 0) (by decide) (by decide) (by decide))).trans hM_54
          have hM_63 : M_59 (μ 8) = cC ca 60 pa := (fr_61 (μ 8) (hμ.ne (i := 8) (j := 0) (by decide) (by decide) (by decide))).trans hM_55
          have hM_64 : M_59 (μ 7) = cI ca 33 (up (up rd (3 * (q 2) + 0) (nmV pa (q 0) (q 3) 4095)) (3 * (q 2) + 1) (nmV pa (q 0) (nmA pa (q 0) (q 3) 4095 + 1) 1023)) := (fr_61 (μ 7) (hμ.ne (i := 7) (j := 0) (by decide) (by decide) (by decide))).trans hM_56
          refine g_iload_n X 0 rfl dX6_readsStream_78 rfl ?_
          exact g_zret X hret (by rfl) ⟨Nat.le_of_ble_eq_true rfl, Nat.le_of_ble_eq_true rfl⟩ dX6_readsStream_79 ⟨by rw [if_neg (fun q => h_57 q.2.2.2.1)], rfl, (hM_60).trans (by unfold rsS; dsimp only; rw [if_neg (not_not_intro h_9), if_neg (not_not_intro h_25), if_neg (not_not_intro h_41), if_pos h_57]; rfl), (hM_64).trans (by unfold rsS; dsimp only; rw [if_neg (not_not_intro h_9), if_neg (not_not_intro h_25), if_neg (not_not_intro h_41), if_pos h_57]), fun b hb hb7 => ((fr_61 b hb).trans ((fr_52 b hb).trans ((fr_36 b hb hb7).trans ((fr_20 b hb).trans (fr_4 b hb hb7)))))⟩
        · rw [if_pos h_57] at hM_53
          refine g_aload_n X 0 rfl dX6_readsStream_42 rfl ?_
          refine g_iconst X (z := 2) dX6_readsStream_43 rfl ?_
          refine g_iconst X (z := 1) dX6_readsStream_44 rfl ?_
          refine g_sipush X (z := 200) (by decide +kernel) dX6_readsStream_45 rfl ?_
          refine g_callV X (ct_X6_number l μ (up q 3 (nmA pa (q 0) (nmA pa (q 0) (q 3) 4095 + 1) 1023 + 1)) g pa (up (up rd (3 * (q 2) + 0) (nmV pa (q 0) (q 3) 4095)) (3 * (q 2) + 1) (nmV pa (q 0) (nmA pa (q 0) (q 3) 4095 + 1) 1023)) 2 1 200) (As := [.int (iI 2), .int (iI 1), .int (iI 200)]) (rest := []) cl_X6 rfl ca_X6_number rfl wm_X6_109 wi_X6_number ws_X6_number wc_X6_number w0_X6 ⟨by decide, by decide⟩ (hμ.mem 0 (by decide)) hM_53 (by decide) ⟨by decide, by decide⟩ rfl dX6_readsStream_48 rfl ⟨rfl, hμ, hM_53, hM_54, hM_55, hP, hq0, (show 0 ≤ nmA pa (q 0) (nmA pa (q 0) (q 3) 4095 + 1) 1023 + 1 ∧ (nmA pa (q 0) (nmA pa (q 0) (q 3) 4095 + 1) 1023 + 1) ≤ 60 from by omega), hM_56, by decide, (show 0 ≤ q 2 ∧ 3 * (q 2) + 2 ≤ 32 from by omega), by decide, by decide⟩ (fun r1 L1 M_65 hq => ?_)
          obtain ⟨rfl, rfl, hM_66, hM_67, fr_68⟩ := hq
          have hM_69 : M_65 (μ 0) = .inr (6, [.ref (μ 1), .ref (μ 2), .ref (μ 3), .ref (μ 4), .ref (μ 5), .ref (μ 6), .ref (μ 7), .ref (μ 8), .int (iI (q 0)), .int (iI (q 1)), .int (iI (q 2)), .int (iI (if nmT pa (q 0) (nmA pa (q 0) (nmA pa (q 0) (q 3) 4095 + 1) 1023 + 1) 1 then nmA pa (q 0) (nmA pa (q 0) (nmA pa (q 0) (q 3) 4095 + 1) 1023 + 1) 200 else nmA pa (q 0) (nmA pa (q 0) (q 3) 4095 + 1) 1023 + 1))]) := hM_66
          have hM_70 : M_65 (μ 7) = cI ca 33 (up (up (up rd (3 * (q 2) + 0) (nmV pa (q 0) (q 3) 4095)) (3 * (q 2) + 1) (nmV pa (q 0) (nmA pa (q 0) (q 3) 4095 + 1) 1023)) (3 * (q 2) + 2) (if nmT pa (q 0) (nmA pa (q 0) (nmA pa (q 0) (q 3) 4095 + 1) 1023 + 1) 1 then nmV pa (q 0) (nmA pa (q 0) (nmA pa (q 0) (q 3) 4095 + 1) 1023 + 1) 200 else 0)) := hM_67
          have hM_71 : M_65 (μ 1) = cI ca 110 g := (fr_68 _ (hμ.ne (i := 1) (j := 0) (by decide) (by decide) (by decide)) (hμ.ne (i := 1) (j := 7) (by decide) (by decide) (by decide))).trans hM_54
          have hM_72 : M_65 (μ 8) = cC ca 60 pa := (fr_68 _ (hμ.ne (i := 8) (j := 0) (by decide) (by decide) (by decide)) (hμ.ne (i := 8) (j := 7) (by decide) (by decide) (by decide))).trans hM_55
          refine g_st (st' := [.int (iI (if nmT pa (q 0) (nmA pa (q 0) (nmA pa (q 0) (q 3) 4095 + 1) 1023 + 1) 1 then 1 else 0))]) rfl ?_
          refine g_if_eqb X (tgt := 58) dX6_readsStream_51 (by decide) rfl (fun h_73 => ?_) (fun h_73 => ?_)
          · rw [if_neg h_73] at hM_69 hM_70
            refine g_iconst X (z := 0) dX6_readsStream_58 rfl ?_
            refine g_istore_n X (lv' := [(1, .int (iI 0)), (0, .ref (μ 0))]) (by decide) rfl dX6_readsStream_59 rfl ?_
            refine g_aload_n X 1 rfl dX6_readsStream_60 rfl ?_
            refine g_dup X rfl dX6_readsStream_61 rfl ?_
            refine g_get X cl_X6 10 (by decide) wf_X6_106 rfl (hμ.mem 0 (by decide)) hM_69 rfl dX6_readsStream_62 rfl ?_
            refine g_iload_n X 0 rfl dX6_readsStream_65 rfl ?_
            refine g_if_eq X ⟨by decide, by decide⟩ (tgt := 73) dX6_readsStream_66 (by decide) rfl (fun _ => ?_) (fun h => absurd (by decide) h)
            refine g_iconst X (z := 0) dX6_readsStream_73 rfl ?_
            refine g_iadd X dX6_readsStream_74 rfl ?_
            refine g_st (st' := [.int (iI (q 2)), .ref (μ 0)]) (by rw [Int.add_zero]) ?_
            refine g_put X cl_X6 10 (by decide) wf_X6_106 rfl (hμ.mem 0 (by decide)) hM_69 rfl rfl rfl (Nat.le_of_ble_eq_true rfl) (fs' := [.ref (μ 1), .ref (μ 2), .ref (μ 3), .ref (μ 4), .ref (μ 5), .ref (μ 6), .ref (μ 7), .ref (μ 8), .int (iI (q 0)), .int (iI (q 1)), .int (iI (q 2)), .int (iI (nmA pa (q 0) (nmA pa (q 0) (q 3) 4095 + 1) 1023 + 1))]) rfl dX6_readsStream_75 rfl (fun M_75 hM_76 fr_77 => ?_)
            have hM_78 : M_75 (μ 1) = cI ca 110 g := (fr_77 (μ 1) (hμ.ne (i := 1) (j := 0) (by decide) (by decide) (by decide))).trans hM_71
            have hM_79 : M_75 (μ 8) = cC ca 60 pa := (fr_77 (μ 8) (hμ.ne (i := 8) (j := 0) (by decide) (by decide) (by decide))).trans hM_72
            have hM_80 : M_75 (μ 7) = cI ca 33 (up (up (up rd (3 * (q 2) + 0) (nmV pa (q 0) (q 3) 4095)) (3 * (q 2) + 1) (nmV pa (q 0) (nmA pa (q 0) (q 3) 4095 + 1) 1023)) (3 * (q 2) + 2) 0) := (fr_77 (μ 7) (hμ.ne (i := 7) (j := 0) (by decide) (by decide) (by decide))).trans hM_70
            refine g_iload_n X 0 rfl dX6_readsStream_78 rfl ?_
            exact g_zret X hret (by rfl) ⟨Nat.le_of_ble_eq_true rfl, Nat.le_of_ble_eq_true rfl⟩ dX6_readsStream_79 ⟨by rw [if_neg (fun q => h_73 q.2.2.2.2)], rfl, (hM_76).trans (by unfold rsS; dsimp only; rw [if_neg (not_not_intro h_9), if_neg (not_not_intro h_25), if_neg (not_not_intro h_41), if_neg (not_not_intro h_57), if_pos h_73]; rfl), (hM_80).trans (by unfold rsS; dsimp only; rw [if_neg (not_not_intro h_9), if_neg (not_not_intro h_25), if_neg (not_not_intro h_41), if_neg (not_not_intro h_57), if_pos h_73]), fun b hb hb7 => ((fr_77 b hb).trans ((fr_68 b hb hb7).trans ((fr_52 b hb).trans ((fr_36 b hb hb7).trans ((fr_20 b hb).trans (fr_4 b hb hb7))))))⟩
          · rw [if_pos h_73] at hM_69 hM_70
            have hn_81 := nm_rng (hi := 200) hq0.2 (by decide) (by omega) h_73
            refine g_iconst X (z := 1) dX6_readsStream_54 rfl ?_
            refine g_goto X (n := 59) dX6_readsStream_55 (by decide) ?_
            refine g_istore_n X (lv' := [(1, .int (iI 1)), (0, .ref (μ 0))]) (by decide) rfl dX6_readsStream_59 rfl ?_
            refine g_aload_n X 1 rfl dX6_readsStream_60 rfl ?_
            refine g_dup X rfl dX6_readsStream_61 rfl ?_
            refine g_get X cl_X6 10 (by decide) wf_X6_106 rfl (hμ.mem 0 (by decide)) hM_69 rfl dX6_readsStream_62 rfl ?_
            refine g_iload_n X 0 rfl dX6_readsStream_65 rfl ?_
            refine g_if_eq X ⟨by decide, by decide⟩ (tgt := 73) dX6_readsStream_66 (by decide) rfl (fun h => absurd h (by decide)) (fun _ => ?_)
            refine g_iconst X (z := 1) dX6_readsStream_69 rfl ?_
            refine g_goto X (n := 74) dX6_readsStream_70 (by decide) ?_
            refine g_iadd X dX6_readsStream_74 rfl ?_
            refine g_put X cl_X6 10 (by decide) wf_X6_106 rfl (hμ.mem 0 (by decide)) hM_69 rfl rfl rfl (Nat.le_of_ble_eq_true rfl) (fs' := [.ref (μ 1), .ref (μ 2), .ref (μ 3), .ref (μ 4), .ref (μ 5), .ref (μ 6), .ref (μ 7), .ref (μ 8), .int (iI (q 0)), .int (iI (q 1)), .int (iI (q 2 + 1)), .int (iI (nmA pa (q 0) (nmA pa (q 0) (nmA pa (q 0) (q 3) 4095 + 1) 1023 + 1) 200))]) rfl dX6_readsStream_75 rfl (fun M_83 hM_84 fr_85 => ?_)
            have hM_86 : M_83 (μ 1) = cI ca 110 g := (fr_85 (μ 1) (hμ.ne (i := 1) (j := 0) (by decide) (by decide) (by decide))).trans hM_71
            have hM_87 : M_83 (μ 8) = cC ca 60 pa := (fr_85 (μ 8) (hμ.ne (i := 8) (j := 0) (by decide) (by decide) (by decide))).trans hM_72
            have hM_88 : M_83 (μ 7) = cI ca 33 (up (up (up rd (3 * (q 2) + 0) (nmV pa (q 0) (q 3) 4095)) (3 * (q 2) + 1) (nmV pa (q 0) (nmA pa (q 0) (q 3) 4095 + 1) 1023)) (3 * (q 2) + 2) (nmV pa (q 0) (nmA pa (q 0) (nmA pa (q 0) (q 3) 4095 + 1) 1023 + 1) 200)) := (fr_85 (μ 7) (hμ.ne (i := 7) (j := 0) (by decide) (by decide) (by decide))).trans hM_70
            refine g_iload_n X 0 rfl dX6_readsStream_78 rfl ?_
            exact g_zret X hret (by rfl) ⟨Nat.le_of_ble_eq_true rfl, Nat.le_of_ble_eq_true rfl⟩ dX6_readsStream_79 ⟨by rw [if_pos ⟨h_9, h_25, h_41, h_57, h_73⟩], rfl, (hM_84).trans (by unfold rsS; dsimp only; rw [if_neg (not_not_intro h_9), if_neg (not_not_intro h_25), if_neg (not_not_intro h_41), if_neg (not_not_intro h_57), if_neg (not_not_intro h_73)]; rfl), (hM_88).trans (by unfold rsS; dsimp only; rw [if_neg (not_not_intro h_9), if_neg (not_not_intro h_25), if_neg (not_not_intro h_41), if_neg (not_not_intro h_57), if_neg (not_not_intro h_73)]), fun b hb hb7 => ((fr_85 b hb).trans ((fr_68 b hb hb7).trans ((fr_52 b hb).trans ((fr_36 b hb hb7).trans ((fr_20 b hb).trans (fr_4 b hb hb7))))))⟩
