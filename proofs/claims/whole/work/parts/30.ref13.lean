/-! the reference: streams of the pad, its fault, read -/
theorem ite_dec {c : Prop} [Decidable c] : (if c then (1 : Int) else 0) = if decide c = true then 1 else 0 := by
  by_cases hc : c
  · rw [if_pos hc, if_pos (decide_eq_true hc)]
  · rw [if_neg hc, if_neg (fun w => hc (of_decide_eq_true w))]
set_option maxRecDepth 100000 in
set_option maxHeartbeats 4000000 in
theorem ct_X6_readsStream (l : Launch) (μ : Nat → Nat) (q g : Int → Int) (pa rd : Int → Int) : Ct l yX6_readsStream cX6_readsStream 2 (some .boolean) 2 0 0 (fun ca av L M => av = [.ref (μ 0)] ∧ MuOk μ L ∧ M (μ 0) = oMd μ q ∧ M (μ 1) = cI ca 110 g ∧ M (μ 8) = cC ca 60 pa ∧ InvP pa ∧ (0 ≤ q 0 ∧ q 0 ≤ 60) ∧ (0 ≤ q 3 ∧ q 3 ≤ 60) ∧ M (μ 7) = cI ca 33 rd ∧ (0 ≤ q 2 ∧ q 2 ≤ 10)) (fun ca av L M r L1 M1 => r = some (.int (iI (if rsT pa (q 0) (q 3) then 1 else 0))) ∧ L = L1 ∧ M1 (μ 0) = oMd μ (up (up q 2 (rsS pa (q 0) (rd, q 2, q 3)).2.1) 3 (rsS pa (q 0) (rd, q 2, q 3)).2.2) ∧ M1 (μ 7) = cI ca 33 (rsS pa (q 0) (rd, q 2, q 3)).1 ∧ ∀ b, b ≠ μ 0 → b ≠ μ 7 → M1 b = M b) := by
  refine Ct_of (own := RX6) (by decide) rfl (by rintro _ _ _ _ ⟨rfl, _⟩; exact Nat.le_of_ble_eq_true rfl) ?_
  rintro p e s m args below meth c D ca A av L M ⟨rfl, hμ, hMo, hMs, hM8, hP, hq0, hq3, hM7, hq2⟩ X hret hname
  refine g_lv (lv' := [(0, .ref (μ 0))]) [0] rfl ?_
  refine g_aload_n X 0 rfl dX6_readsStream_0 rfl ?_
  refine g_iconst X (z := 0) dX6_readsStream_1 rfl ?_
  refine g_iconst X (z := 0) dX6_readsStream_2 rfl ?_
  refine g_sipush X (z := 4095) (by decide +kernel) dX6_readsStream_3 rfl ?_
  refine g_callV X (ct_X6_number l μ q g pa rd 0 0 4095) (As := [.int (iI 0), .int (iI 0), .int (iI 4095)]) (rest := []) cl_X6 rfl ca_X6_number rfl wm_X6_109 wi_X6_number ws_X6_number wc_X6_number w0_X6 ⟨by decide, by decide⟩ (hμ.mem 0 (by decide)) hMo (by decide) ⟨by decide, by decide⟩ rfl dX6_readsStream_6 rfl ⟨rfl, hμ, hMo, hMs, hM8, hP, hq0, (show 0 ≤ q 3 ∧ q 3 ≤ 60 from by omega), hM7, by decide, (show 0 ≤ q 2 ∧ 3 * (q 2) + 0 ≤ 32 from by omega), by decide, by decide⟩ (fun r1 L1 M_1 hq => ?_)
  obtain ⟨rfl, rfl, hM_2, hM_3, fr_4⟩ := hq
  have hM_5 : M_1 (μ 0) = .inr (6, [.ref (μ 1), .ref (μ 2), .ref (μ 3), .ref (μ 4), .ref (μ 5), .ref (μ 6), .ref (μ 7), .ref (μ 8), .int (iI (q 0)), .int (iI (q 1)), .int (iI (q 2)), .int (iI (if nmT pa (q 0) (q 3) 0 then nmA pa (q 0) (q 3) 4095 else q 3))]) := hM_2
  have hM_6 : M_1 (μ 7) = cI ca 33 (up rd (3 * (q 2) + 0) (if nmT pa (q 0) (q 3) 0 then nmV pa (q 0) (q 3) 4095 else 0)) := hM_3
  have hM_7 : M_1 (μ 1) = cI ca 110 g := (fr_4 _ (hμ.ne (i := 1) (j := 0) (by decide) (by decide) (by decide)) (hμ.ne (i := 1) (j := 7) (by decide) (by decide) (by decide))).trans hMs
  have hM_8 : M_1 (μ 8) = cC ca 60 pa := (fr_4 _ (hμ.ne (i := 8) (j := 0) (by decide) (by decide) (by decide)) (hμ.ne (i := 8) (j := 7) (by decide) (by decide) (by decide))).trans hM8
  refine g_st (st' := [.int (iI (if nmT pa (q 0) (q 3) 0 then 1 else 0))]) rfl ?_
  refine g_if_eqb X (tgt := 58) dX6_readsStream_9 (by decide) rfl (fun h_9 => ?_) (fun h_9 => ?_)
  · rw [if_neg h_9] at hM_5 hM_6
    refine g_iconst X (z := 0) dX6_readsStream_58 rfl ?_
    refine g_istore_n X (lv' := [(1, .int (iI 0)), (0, .ref (μ 0))]) (by decide) rfl dX6_readsStream_59 rfl ?_
    refine g_aload_n X 1 rfl dX6_readsStream_60 rfl ?_
    refine g_dup X rfl dX6_readsStream_61 rfl ?_
    refine g_get X cl_X6 10 (by decide) wf_X6_106 rfl (hμ.mem 0 (by decide)) hM_5 rfl dX6_readsStream_62 rfl ?_
    refine g_iload_n X 0 rfl dX6_readsStream_65 rfl ?_
    refine g_if_eq X ⟨by decide, by decide⟩ (tgt := 73) dX6_readsStream_66 (by decide) rfl (fun _ => ?_) (fun h => absurd (by decide) h)
    refine g_iconst X (z := 0) dX6_readsStream_73 rfl ?_
    refine g_iadd X dX6_readsStream_74 rfl ?_
    refine g_st (st' := [.int (iI (q 2)), .ref (μ 0)]) (by rw [Int.add_zero]) ?_
    refine g_put X cl_X6 10 (by decide) wf_X6_106 rfl (hμ.mem 0 (by decide)) hM_5 rfl rfl rfl (Nat.le_of_ble_eq_true rfl) (fs' := [.ref (μ 1), .ref (μ 2), .ref (μ 3), .ref (μ 4), .ref (μ 5), .ref (μ 6), .ref (μ 7), .ref (μ 8), .int (iI (q 0)), .int (iI (q 1)), .int (iI (q 2)), .int (iI (q 3))]) rfl dX6_readsStream_75 rfl (fun M_11 hM_12 fr_13 => ?_)
    have hM_14 : M_11 (μ 1) = cI ca 110 g := (fr_13 (μ 1) (hμ.ne (i := 1) (j := 0) (by decide) (by decide) (by decide))).trans hM_7
    have hM_15 : M_11 (μ 8) = cC ca 60 pa := (fr_13 (μ 8) (hμ.ne (i := 8) (j := 0) (by decide) (by decide) (by decide))).trans hM_8
    have hM_16 : M_11 (μ 7) = cI ca 33 (up rd (3 * (q 2) + 0) 0) := (fr_13 (μ 7) (hμ.ne (i := 7) (j := 0) (by decide) (by decide) (by decide))).trans hM_6
    refine g_iload_n X 0 rfl dX6_readsStream_78 rfl ?_
    exact g_zret X hret (by rfl) ⟨Nat.le_of_ble_eq_true rfl, Nat.le_of_ble_eq_true rfl⟩ dX6_readsStream_79 ⟨by rw [if_neg (fun q => h_9 q.1)], rfl, (hM_12).trans (by unfold rsS; dsimp only; rw [if_pos h_9]; rfl), (hM_16).trans (by unfold rsS; dsimp only; rw [if_pos h_9]), fun b hb hb7 => ((fr_13 b hb).trans (fr_4 b hb hb7))⟩
  · rw [if_pos h_9] at hM_5 hM_6
    have hn_17 := nm_rng (hi := 4095) hq0.2 (by decide) (by omega) h_9
    refine g_aload_n X 0 rfl dX6_readsStream_12 rfl ?_
    refine g_bipush X (z := 43) (by decide +kernel) dX6_readsStream_13 rfl ?_
    refine g_callV X (ct_X6_accepts l μ (up q 3 (nmA pa (q 0) (q 3) 4095)) g pa 43) (As := [.int (iI 43)]) (rest := []) cl_X6 rfl ca_X6_accepts rfl wm_X6_112 wi_X6_accepts ws_X6_accepts wc_X6_accepts w0_X6 ⟨by decide, by decide⟩ (hμ.mem 0 (by decide)) hM_5 (by decide) ⟨by decide, by decide⟩ rfl dX6_readsStream_15 rfl ⟨rfl, hμ, hM_5, hM_7, hM_8, hP, hq0, (show 0 ≤ nmA pa (q 0) (q 3) 4095 ∧ nmA pa (q 0) (q 3) 4095 ≤ 60 from by omega), ⟨by decide, by decide⟩⟩ (fun r1 L1 M_18 hq => ?_)
    obtain ⟨rfl, rfl, hM_19, fr_20⟩ := hq
    have hM_21 : M_18 (μ 0) = .inr (6, [.ref (μ 1), .ref (μ 2), .ref (μ 3), .ref (μ 4), .ref (μ 5), .ref (μ 6), .ref (μ 7), .ref (μ 8), .int (iI (q 0)), .int (iI (q 1)), .int (iI (q 2)), .int (iI (nmA pa (q 0) (q 3) 4095 + if isSg pa (q 0) (nmA pa (q 0) (q 3) 4095) 43 43 then 1 else 0))]) := hM_19
    have hM_22 : M_18 (μ 1) = cI ca 110 g := (fr_20 _ (hμ.ne (i := 1) (j := 0) (by decide) (by decide) (by decide))).trans hM_7
    have hM_23 : M_18 (μ 8) = cC ca 60 pa := (fr_20 _ (hμ.ne (i := 8) (j := 0) (by decide) (by decide) (by decide))).trans hM_8
    have hM_24 : M_18 (μ 7) = cI ca 33 (up rd (3 * (q 2) + 0) (nmV pa (q 0) (q 3) 4095)) := (fr_20 _ (hμ.ne (i := 7) (j := 0) (by decide) (by decide) (by decide))).trans hM_6
    refine g_st (st' := [.int (iI (if isSg pa (q 0) (nmA pa (q 0) (q 3) 4095) 43 43 then 1 else 0))]) rfl ?_
    refine g_if_eqb X (tgt := 58) dX6_readsStream_18 (by decide) rfl (fun h_25 => ?_) (fun h_25 => ?_)
    · rw [if_neg h_25, Int.add_zero] at hM_21
      refine g_iconst X (z := 0) dX6_readsStream_58 rfl ?_
      refine g_istore_n X (lv' := [(1, .int (iI 0)), (0, .ref (μ 0))]) (by decide) rfl dX6_readsStream_59 rfl ?_
      refine g_aload_n X 1 rfl dX6_readsStream_60 rfl ?_
      refine g_dup X rfl dX6_readsStream_61 rfl ?_
      refine g_get X cl_X6 10 (by decide) wf_X6_106 rfl (hμ.mem 0 (by decide)) hM_21 rfl dX6_readsStream_62 rfl ?_
      refine g_iload_n X 0 rfl dX6_readsStream_65 rfl ?_
      refine g_if_eq X ⟨by decide, by decide⟩ (tgt := 73) dX6_readsStream_66 (by decide) rfl (fun _ => ?_) (fun h => absurd (by decide) h)
      refine g_iconst X (z := 0) dX6_readsStream_73 rfl ?_
      refine g_iadd X dX6_readsStream_74 rfl ?_
      refine g_st (st' := [.int (iI (q 2)), .ref (μ 0)]) (by rw [Int.add_zero]) ?_
      refine g_put X cl_X6 10 (by decide) wf_X6_106 rfl (hμ.mem 0 (by decide)) hM_21 rfl rfl rfl (Nat.le_of_ble_eq_true rfl) (fs' := [.ref (μ 1), .ref (μ 2), .ref (μ 3), .ref (μ 4), .ref (μ 5), .ref (μ 6), .ref (μ 7), .ref (μ 8), .int (iI (q 0)), .int (iI (q 1)), .int (iI (q 2)), .int (iI (nmA pa (q 0) (q 3) 4095))]) rfl dX6_readsStream_75 rfl (fun M_27 hM_28 fr_29 => ?_)
      have hM_30 : M_27 (μ 1) = cI ca 110 g := (fr_29 (μ 1) (hμ.ne (i := 1) (j := 0) (by decide) (by decide) (by decide))).trans hM_22
      have hM_31 : M_27 (μ 8) = cC ca 60 pa := (fr_29 (μ 8) (hμ.ne (i := 8) (j := 0) (by decide) (by decide) (by decide))).trans hM_23
      have hM_32 : M_27 (μ 7) = cI ca 33 (up rd (3 * (q 2) + 0) (nmV pa (q 0) (q 3) 4095)) := (fr_29 (μ 7) (hμ.ne (i := 7) (j := 0) (by decide) (by decide) (by decide))).trans hM_24
      refine g_iload_n X 0 rfl dX6_readsStream_78 rfl ?_
      exact g_zret X hret (by rfl) ⟨Nat.le_of_ble_eq_true rfl, Nat.le_of_ble_eq_true rfl⟩ dX6_readsStream_79 ⟨by rw [if_neg (fun q => h_25 q.2.1)], rfl, (hM_28).trans (by unfold rsS; dsimp only; rw [if_neg (not_not_intro h_9), if_pos h_25]; rfl), (hM_32).trans (by unfold rsS; dsimp only; rw [if_neg (not_not_intro h_9), if_pos h_25]), fun b hb hb7 => ((fr_29 b hb).trans ((fr_20 b hb).trans (fr_4 b hb hb7)))⟩
    · rw [if_pos h_25] at hM_21
      refine g_aload_n X 0 rfl dX6_readsStream_21 rfl ?_
      refine g_iconst X (z := 1) dX6_readsStream_22 rfl ?_
      refine g_iconst X (z := 0) dX6_readsStream_23 rfl ?_
      refine g_sipush X (z := 1023) (by decide +kernel) dX6_readsStream_24 rfl ?_
      refine g_callV X (ct_X6_number l μ (up q 3 (nmA pa (q 0) (q 3) 4095 + 1)) g pa (up rd (3 * (q 2) + 0) (nmV pa (q 0) (q 3) 4095)) 1 0 1023) (As := [.int (iI 1), .int (iI 0), .int (iI 1023)]) (rest := []) cl_X6 rfl ca_X6_number rfl wm_X6_109 wi_X6_number ws_X6_number wc_X6_number w0_X6 ⟨by decide, by decide⟩ (hμ.mem 0 (by decide)) hM_21 (by decide) ⟨by decide, by decide⟩ rfl dX6_readsStream_27 rfl ⟨rfl, hμ, hM_21, hM_22, hM_23, hP, hq0, (show 0 ≤ nmA pa (q 0) (q 3) 4095 + 1 ∧ (nmA pa (q 0) (q 3) 4095 + 1) ≤ 60 from by omega), hM_24, by decide, (show 0 ≤ q 2 ∧ 3 * (q 2) + 1 ≤ 32 from by omega), by decide, by decide⟩ (fun r1 L1 M_33 hq => ?_)
      obtain ⟨rfl, rfl, hM_34, hM_35, fr_36⟩ := hq
      have hM_37 : M_33 (μ 0) = .inr (6, [.ref (μ 1), .ref (μ 2), .ref (μ 3), .ref (μ 4), .ref (μ 5), .ref (μ 6), .ref (μ 7), .ref (μ 8), .int (iI (q 0)), .int (iI (q 1)), .int (iI (q 2)), .int (iI (if nmT pa (q 0) (nmA pa (q 0) (q 3) 4095 + 1) 0 then nmA pa (q 0) (nmA pa (q 0) (q 3) 4095 + 1) 1023 else nmA pa (q 0) (q 3) 4095 + 1))]) := hM_34
      have hM_38 : M_33 (μ 7) = cI ca 33 (up (up rd (3 * (q 2) + 0) (nmV pa (q 0) (q 3) 4095)) (3 * (q 2) + 1) (if nmT pa (q 0) (nmA pa (q 0) (q 3) 4095 + 1) 0 then nmV pa (q 0) (nmA pa (q 0) (q 3) 4095 + 1) 1023 else 0)) := hM_35
      have hM_39 : M_33 (μ 1) = cI ca 110 g := (fr_36 _ (hμ.ne (i := 1) (j := 0) (by decide) (by decide) (by decide)) (hμ.ne (i := 1) (j := 7) (by decide) (by decide) (by decide))).trans hM_22
      have hM_40 : M_33 (μ 8) = cC ca 60 pa := (fr_36 _ (hμ.ne (i := 8) (j := 0) (by decide) (by decide) (by decide)) (hμ.ne (i := 8) (j := 7) (by decide) (by decide) (by decide))).trans hM_23
      refine g_st (st' := [.int (iI (if nmT pa (q 0) (nmA pa (q 0) (q 3) 4095 + 1) 0 then 1 else 0))]) rfl ?_
      refine g_if_eqb X (tgt := 58) dX6_readsStream_30 (by decide) rfl (fun h_41 => ?_) (fun h_41 => ?_)
      · rw [if_neg h_41] at hM_37 hM_38
        refine g_iconst X (z := 0) dX6_readsStream_58 rfl ?_
        refine g_istore_n X (lv' := [(1, .int (iI 0)), (0, .ref (μ 0))]) (by decide) rfl dX6_readsStream_59 rfl ?_
        refine g_aload_n X 1 rfl dX6_readsStream_60 rfl ?_
        refine g_dup X rfl dX6_readsStream_61 rfl ?_
        refine g_get X cl_X6 10 (by decide) wf_X6_106 rfl (hμ.mem 0 (by decide)) hM_37 rfl dX6_readsStream_62 rfl ?_
        refine g_iload_n X 0 rfl dX6_readsStream_65 rfl ?_
        refine g_if_eq X ⟨by decide, by decide⟩ (tgt := 73) dX6_readsStream_66 (by decide) rfl (fun _ => ?_) (fun h => absurd (by decide) h)
        refine g_iconst X (z := 0) dX6_readsStream_73 rfl ?_
        refine g_iadd X dX6_readsStream_74 rfl ?_
        refine g_st (st' := [.int (iI (q 2)), .ref (μ 0)]) (by rw [Int.add_zero]) ?_
        refine g_put X cl_X6 10 (by decide) wf_X6_106 rfl (hμ.mem 0 (by decide)) hM_37 rfl rfl rfl (Nat.le_of_ble_eq_true rfl) (fs' := [.ref (μ 1), .ref (μ 2), .ref (μ 3), .ref (μ 4), .ref (μ 5), .ref (μ 6), .ref (μ 7), .ref (μ 8), .int (iI (q 0)), .int (iI (q 1)), .int (iI (q 2)), .int (iI (nmA pa (q 0) (q 3) 4095 + 1))]) rfl dX6_readsStream_75 rfl (fun M_43 hM_44 fr_45 => ?_)
        have hM_46 : M_43 (μ 1) = cI ca 110 g := (fr_45 (μ 1) (hμ.ne (i := 1) (j := 0) (by decide) (by decide) (by decide))).trans hM_39
        have hM_47 : M_43 (μ 8) = cC ca 60 pa := (fr_45 (μ 8) (hμ.ne (i := 8) (j := 0) (by decide) (by decide) (by decide))).trans hM_40
        have hM_48 : M_43 (μ 7) = cI ca 33 (up (up rd (3 * (q 2) + 0) (nmV pa (q 0) (q 3) 4095)) (3 * (q 2) + 1) 0) := (fr_45 (μ 7) (hμ.ne (i := 7) (j := 0) (by decide) (by decide) (by decide))).trans hM_38
        refine g_iload_n X 0 rfl dX6_readsStream_78 rfl ?_
        exact g_zret X hret (by rfl) ⟨Nat.le_of_ble_eq_true rfl, Nat.le_of_ble_eq_true rfl⟩ dX6_readsStream_79 ⟨by rw [if_neg (fun q => h_41 q.2.2.1)], rfl, (hM_44).trans (by unfold rsS; dsimp only; rw [if_neg (not_not_intro h_9), if_neg (not_not_intro h_25), if_pos h_41]; rfl), (hM_48).trans (by unfold rsS; dsimp only; rw [if_neg (not_not_intro h_9), if_neg (not_not_intro h_25), if_pos h_41]), fun b hb hb7 => ((fr_45 b hb).trans ((fr_36 b hb hb7).trans ((fr_20 b hb).trans (fr_4 b hb hb7))))⟩
      · rw [if_pos h_41] at hM_37 hM_38
        have hn_49 := nm_rng (hi := 1023) hq0.2 (by decide) (by omega) h_41
        refine g_aload_n X 0 rfl dX6_readsStream_33 rfl ?_
        refine g_bipush X (z := 42) (by decide +kernel) dX6_readsStream_34 rfl ?_
        refine g_callV X (ct_X6_accepts l μ (up q 3 (nmA pa (q 0) (nmA pa (q 0) (q 3) 4095 + 1) 1023)) g pa 42) (As := [.int (iI 42)]) (rest := []) cl_X6 rfl ca_X6_accepts rfl wm_X6_112 wi_X6_accepts ws_X6_accepts wc_X6_accepts w0_X6 ⟨by decide, by decide⟩ (hμ.mem 0 (by decide)) hM_37 (by decide) ⟨by decide, by decide⟩ rfl dX6_readsStream_36 rfl ⟨rfl, hμ, hM_37, hM_39, hM_40, hP, hq0, (show 0 ≤ nmA pa (q 0) (nmA pa (q 0) (q 3) 4095 + 1) 1023 ∧ nmA pa (q 0) (nmA pa (q 0) (q 3) 4095 + 1) 1023 ≤ 60 from by omega), ⟨by decide, by decide⟩⟩ (fun r1 L1 M_50 hq => ?_)
        obtain ⟨rfl, rfl, hM_51, fr_52⟩ := hq
        have hM_53 : M_50 (μ 0) = .inr (6, [.ref (μ 1), .ref (μ 2), .ref (μ 3), .ref (μ 4), .ref (μ 5), .ref (μ 6), .ref (μ 7), .ref (μ 8), .int (iI (q 0)), .int (iI (q 1)), .int (iI (q 2)), .int (iI (nmA pa (q 0) (nmA pa (q 0) (q 3) 4095 + 1) 1023 + if isSg pa (q 0) (nmA pa (q 0) (nmA pa (q 0) (q 3) 4095 + 1) 1023) 42 42 then 1 else 0))]) := hM_51
        have hM_54 : M_50 (μ 1) = cI ca 110 g := (fr_52 _ (hμ.ne (i := 1) (j := 0) (by decide) (by decide) (by decide))).trans hM_39
        have hM_55 : M_50 (μ 8) = cC ca 60 pa := (fr_52 _ (hμ.ne (i := 8) (j := 0) (by decide) (by decide) (by decide))).trans hM_40
        have hM_56 : M_50 (μ 7) = cI ca 33 (up (up rd (3 * (q 2) + 0) (nmV pa (q 0) (q 3) 4095)) (3 * (q 2) + 1) (nmV pa (q 0) (nmA pa (q 0) (q 3) 4095 + 1) 1023)) := (fr_52 _ (hμ.ne (i := 7) (j := 0) (by decide) (by decide) (by decide))).trans hM_38
        refine g_st (st' := [.int (iI (if isSg pa (q 0) (nmA pa (q 0) (nmA pa (q 0) (q 3) 4095 + 1) 1023) 42 42 then 1 else 0))]) rfl ?_
        refine g_if_eqb X (tgt := 58) dX6_readsStream_39 (by decide) rfl (fun h_57 => ?_) (fun h_57 => ?_)
        · rw [if_neg h_57, Int.add_zero] at hM_53
          refine g_iconst X (z := 0) dX6_readsStream_58 rfl ?_
          refine g_istore_n X (lv' := [(1, .int (iI 0)), (0, .ref (μ 0))]) (by decide) rfl dX6_readsStream_59 rfl ?_
          refine g_aload_n X 1 rfl dX6_readsStream_60 rfl ?_
          refine g_dup X rfl dX6_readsStream_61 rfl ?_
          refine g_get X cl_X6 10 (by decide) wf_X6_106 rfl (hμ.mem 0 (by decide)) hM_53 rfl dX6_readsStream_62 rfl ?_
          refine g_iload_n X 0 rfl dX6_readsStream_65 rfl ?_
          refine g_if_eq X ⟨by decide, by decide⟩ (tgt := 73) dX6_readsStream_66 (by decide) rfl (fun _ => ?_) (fun h => absurd (by decide) h)
          refine g_iconst X (z := 0) dX6_readsStream_73 rfl ?_
          refine g_iadd X dX6_readsStream_74 rfl ?_
          refine g_st (st' := [.int (iI (q 2)), .ref (μ 0)]) (by rw [Int.add_zero]) ?_
          refine g_put X cl_X6 10 (by decide) wf_X6_106 rfl (hμ.mem 0 (by decide)) hM_53 rfl rfl rfl (Nat.le_of_ble_eq_true rfl) (fs' := [.ref (μ 1), .ref (μ 2), .ref (μ 3), .ref (μ 4), .ref (μ 5), .ref (μ 6), .ref (μ 7), .ref (μ 8), .int (iI (q 0)), .int (iI (q 1)), .int (iI (q 2)), .int (iI (nmA pa (q 0) (nmA pa (q 0) (q 3) 4095 + 1) 1023))]) rfl dX6_readsStream_75 rfl (fun M_59 hM_60 fr_61 => ?_)
          have hM_62 : M_59 (μ 1) = cI ca 110 g := (fr_61 (μ 1) (hμ.ne (i := 1) (j := 0) (by decide) (by decide) (by decide))).trans hM_54
          have hM_63 : M_59 (μ 8) = cC ca 60 pa := (fr_61 (μ 8) (hμ.ne (i := 8) (j := 0) (by decide) (by decide) (by decide))).trans hM_55
          have hM_64 : M_59 (μ 7) = cI ca 33 (up (up rd (3 * (q 2) + 0) (nmV pa (q 0) (q 3) 4095)) (3 * (q 2) + 1) (nmV pa (q 0) (nmA pa (q 0) (q 3) 4095 + 1) 1023)) := (fr_61 (μ 7) (hμ.ne (i := 7) (j := 0) (by decide) (by decide) (by decide))).trans hM_56
          refine g_iload_n X 0 rfl dX6_readsStream_78 rfl ?_
          exact g_zret X hret (by rfl) ⟨Nat.le_of_ble_eq_true rfl, Nat.le_of_ble_eq_true rfl⟩ dX6_readsStream_79 ⟨by rw [if_neg (fun q => h_57 q.2.2.2.1)], rfl, (hM_60).trans (by unfold rsS; dsimp only; rw [if_neg (not_not_intro h_9), if_neg (not_not_intro h_25), if_neg (not_not_intro h_41), if_pos h_57]; rfl), (hM_64).trans (by unfold rsS; dsimp only; rw [if_neg (not_not_intro h_9), if_neg (not_not_intro h_25), if_neg (not_not_intro h_41), if_pos h_57]), fun b hb hb7 => ((fr_61 b hb).trans ((fr_52 b hb).trans ((fr_36 b hb hb7).trans ((fr_20 b hb).trans (fr_4 b hb hb7)))))⟩
        · rw [if_pos h_57] at hM_53
          refine g_aload_n X 0 rfl dX6_readsStream_42 rfl ?_
          refine g_iconst X (z := 2) dX6_readsStream_43 rfl ?_
          refine g_iconst X (z := 1) dX6_readsStream_44 rfl ?_
          refine g_sipush X (z := 200) (by decide +kernel) dX6_readsStream_45 rfl ?_
          refine g_callV X (ct_X6_number l μ (up q 3 (nmA pa (q 0) (nmA pa (q 0) (q 3) 4095 + 1) 1023 + 1)) g pa (up (up rd (3 * (q 2) + 0) (nmV pa (q 0) (q 3) 4095)) (3 * (q 2) + 1) (nmV pa (q 0) (nmA pa (q 0) (q 3) 4095 + 1) 1023)) 2 1 200) (As := [.int (iI 2), .int (iI 1), .int (iI 200)]) (rest := []) cl_X6 rfl ca_X6_number rfl wm_X6_109 wi_X6_number ws_X6_number wc_X6_number w0_X6 ⟨by decide, by decide⟩ (hμ.mem 0 (by decide)) hM_53 (by decide) ⟨by decide, by decide⟩ rfl dX6_readsStream_48 rfl ⟨rfl, hμ, hM_53, hM_54, hM_55, hP, hq0, (show 0 ≤ nmA pa (q 0) (nmA pa (q 0) (q 3) 4095 + 1) 1023 + 1 ∧ (nmA pa (q 0) (nmA pa (q 0) (q 3) 4095 + 1) 1023 + 1) ≤ 60 from by omega), hM_56, by decide, (show 0 ≤ q 2 ∧ 3 * (q 2) + 2 ≤ 32 from by omega), by decide, by decide⟩ (fun r1 L1 M_65 hq => ?_)
          obtain ⟨rfl, rfl, hM_66, hM_67, fr_68⟩ := hq
          have hM_69 : M_65 (μ 0) = .inr (6, [.ref (μ 1), .ref (μ 2), .ref (μ 3), .ref (μ 4), .ref (μ 5), .ref (μ 6), .ref (μ 7), .ref (μ 8), .int (iI (q 0)), .int (iI (q 1)), .int (iI (q 2)), .int (iI (if nmT pa (q 0) (nmA pa (q 0) (nmA pa (q 0) (q 3) 4095 + 1) 1023 + 1) 1 then nmA pa (q 0) (nmA pa (q 0) (nmA pa (q 0) (q 3) 4095 + 1) 1023 + 1) 200 else nmA pa (q 0) (nmA pa (q 0) (q 3) 4095 + 1) 1023 + 1))]) := hM_66
          have hM_70 : M_65 (μ 7) = cI ca 33 (up (up (up rd (3 * (q 2) + 0) (nmV pa (q 0) (q 3) 4095)) (3 * (q 2) + 1) (nmV pa (q 0) (nmA pa (q 0) (q 3) 4095 + 1) 1023)) (3 * (q 2) + 2) (if nmT pa (q 0) (nmA pa (q 0) (nmA pa (q 0) (q 3) 4095 + 1) 1023 + 1) 1 then nmV pa (q 0) (nmA pa (q 0) (nmA pa (q 0) (q 3) 4095 + 1) 1023 + 1) 200 else 0)) := hM_67
          have hM_71 : M_65 (μ 1) = cI ca 110 g := (fr_68 _ (hμ.ne (i := 1) (j := 0) (by decide) (by decide) (by decide)) (hμ.ne (i := 1) (j := 7) (by decide) (by decide) (by decide))).trans hM_54
          have hM_72 : M_65 (μ 8) = cC ca 60 pa := (fr_68 _ (hμ.ne (i := 8) (j := 0) (by decide) (by decide) (by decide)) (hμ.ne (i := 8) (j := 7) (by decide) (by decide) (by decide))).trans hM_55
          refine g_st (st' := [.int (iI (if nmT pa (q 0) (nmA pa (q 0) (nmA pa (q 0) (q 3) 4095 + 1) 1023 + 1) 1 then 1 else 0))]) rfl ?_
          refine g_if_eqb X (tgt := 58) dX6_readsStream_51 (by decide) rfl (fun h_73 => ?_) (fun h_73 => ?_)
          · rw [if_neg h_73] at hM_69 hM_70
            refine g_iconst X (z := 0) dX6_readsStream_58 rfl ?_
            refine g_istore_n X (lv' := [(1, .int (iI 0)), (0, .ref (μ 0))]) (by decide) rfl dX6_readsStream_59 rfl ?_
            refine g_aload_n X 1 rfl dX6_readsStream_60 rfl ?_
            refine g_dup X rfl dX6_readsStream_61 rfl ?_
            refine g_get X cl_X6 10 (by decide) wf_X6_106 rfl (hμ.mem 0 (by decide)) hM_69 rfl dX6_readsStream_62 rfl ?_
            refine g_iload_n X 0 rfl dX6_readsStream_65 rfl ?_
            refine g_if_eq X ⟨by decide, by decide⟩ (tgt := 73) dX6_readsStream_66 (by decide) rfl (fun _ => ?_) (fun h => absurd (by decide) h)
            refine g_iconst X (z := 0) dX6_readsStream_73 rfl ?_
            refine g_iadd X dX6_readsStream_74 rfl ?_
            refine g_st (st' := [.int (iI (q 2)), .ref (μ 0)]) (by rw [Int.add_zero]) ?_
            refine g_put X cl_X6 10 (by decide) wf_X6_106 rfl (hμ.mem 0 (by decide)) hM_69 rfl rfl rfl (Nat.le_of_ble_eq_true rfl) (fs' := [.ref (μ 1), .ref (μ 2), .ref (μ 3), .ref (μ 4), .ref (μ 5), .ref (μ 6), .ref (μ 7), .ref (μ 8), .int (iI (q 0)), .int (iI (q 1)), .int (iI (q 2)), .int (iI (nmA pa (q 0) (nmA pa (q 0) (q 3) 4095 + 1) 1023 + 1))]) rfl dX6_readsStream_75 rfl (fun M_75 hM_76 fr_77 => ?_)
            have hM_78 : M_75 (μ 1) = cI ca 110 g := (fr_77 (μ 1) (hμ.ne (i := 1) (j := 0) (by decide) (by decide) (by decide))).trans hM_71
            have hM_79 : M_75 (μ 8) = cC ca 60 pa := (fr_77 (μ 8) (hμ.ne (i := 8) (j := 0) (by decide) (by decide) (by decide))).trans hM_72
            have hM_80 : M_75 (μ 7) = cI ca 33 (up (up (up rd (3 * (q 2) + 0) (nmV pa (q 0) (q 3) 4095)) (3 * (q 2) + 1) (nmV pa (q 0) (nmA pa (q 0) (q 3) 4095 + 1) 1023)) (3 * (q 2) + 2) 0) := (fr_77 (μ 7) (hμ.ne (i := 7) (j := 0) (by decide) (by decide) (by decide))).trans hM_70
            refine g_iload_n X 0 rfl dX6_readsStream_78 rfl ?_
            exact g_zret X hret (by rfl) ⟨Nat.le_of_ble_eq_true rfl, Nat.le_of_ble_eq_true rfl⟩ dX6_readsStream_79 ⟨by rw [if_neg (fun q => h_73 q.2.2.2.2)], rfl, (hM_76).trans (by unfold rsS; dsimp only; rw [if_neg (not_not_intro h_9), if_neg (not_not_intro h_25), if_neg (not_not_intro h_41), if_neg (not_not_intro h_57), if_pos h_73]; rfl), (hM_80).trans (by unfold rsS; dsimp only; rw [if_neg (not_not_intro h_9), if_neg (not_not_intro h_25), if_neg (not_not_intro h_41), if_neg (not_not_intro h_57), if_pos h_73]), fun b hb hb7 => ((fr_77 b hb).trans ((fr_68 b hb hb7).trans ((fr_52 b hb).trans ((fr_36 b hb hb7).trans ((fr_20 b hb).trans (fr_4 b hb hb7))))))⟩
          · rw [if_pos h_73] at hM_69 hM_70
            have hn_81 := nm_rng (hi := 200) hq0.2 (by decide) (by omega) h_73
            refine g_iconst X (z := 1) dX6_readsStream_54 rfl ?_
            refine g_goto X (n := 59) dX6_readsStream_55 (by decide) ?_
            refine g_istore_n X (lv' := [(1, .int (iI 1)), (0, .ref (μ 0))]) (by decide) rfl dX6_readsStream_59 rfl ?_
            refine g_aload_n X 1 rfl dX6_readsStream_60 rfl ?_
            refine g_dup X rfl dX6_readsStream_61 rfl ?_
            refine g_get X cl_X6 10 (by decide) wf_X6_106 rfl (hμ.mem 0 (by decide)) hM_69 rfl dX6_readsStream_62 rfl ?_
            refine g_iload_n X 0 rfl dX6_readsStream_65 rfl ?_
            refine g_if_eq X ⟨by decide, by decide⟩ (tgt := 73) dX6_readsStream_66 (by decide) rfl (fun h => absurd h (by decide)) (fun _ => ?_)
            refine g_iconst X (z := 1) dX6_readsStream_69 rfl ?_
            refine g_goto X (n := 74) dX6_readsStream_70 (by decide) ?_
            refine g_iadd X dX6_readsStream_74 rfl ?_
            refine g_put X cl_X6 10 (by decide) wf_X6_106 rfl (hμ.mem 0 (by decide)) hM_69 rfl rfl rfl (Nat.le_of_ble_eq_true rfl) (fs' := [.ref (μ 1), .ref (μ 2), .ref (μ 3), .ref (μ 4), .ref (μ 5), .ref (μ 6), .ref (μ 7), .ref (μ 8), .int (iI (q 0)), .int (iI (q 1)), .int (iI (q 2 + 1)), .int (iI (nmA pa (q 0) (nmA pa (q 0) (nmA pa (q 0) (q 3) 4095 + 1) 1023 + 1) 200))]) rfl dX6_readsStream_75 rfl (fun M_83 hM_84 fr_85 => ?_)
            have hM_86 : M_83 (μ 1) = cI ca 110 g := (fr_85 (μ 1) (hμ.ne (i := 1) (j := 0) (by decide) (by decide) (by decide))).trans hM_71
            have hM_87 : M_83 (μ 8) = cC ca 60 pa := (fr_85 (μ 8) (hμ.ne (i := 8) (j := 0) (by decide) (by decide) (by decide))).trans hM_72
            have hM_88 : M_83 (μ 7) = cI ca 33 (up (up (up rd (3 * (q 2) + 0) (nmV pa (q 0) (q 3) 4095)) (3 * (q 2) + 1) (nmV pa (q 0) (nmA pa (q 0) (q 3) 4095 + 1) 1023)) (3 * (q 2) + 2) (nmV pa (q 0) (nmA pa (q 0) (nmA pa (q 0) (q 3) 4095 + 1) 1023 + 1) 200)) := (fr_85 (μ 7) (hμ.ne (i := 7) (j := 0) (by decide) (by decide) (by decide))).trans hM_70
            refine g_iload_n X 0 rfl dX6_readsStream_78 rfl ?_
            exact g_zret X hret (by rfl) ⟨Nat.le_of_ble_eq_true rfl, Nat.le_of_ble_eq_true rfl⟩ dX6_readsStream_79 ⟨by rw [if_pos ⟨h_9, h_25, h_41, h_57, h_73⟩], rfl, (hM_84).trans (by unfold rsS; dsimp only; rw [if_neg (not_not_intro h_9), if_neg (not_not_intro h_25), if_neg (not_not_intro h_41), if_neg (not_not_intro h_57), if_neg (not_not_intro h_73)]; rfl), (hM_88).trans (by unfold rsS; dsimp only; rw [if_neg (not_not_intro h_9), if_neg (not_not_intro h_25), if_neg (not_not_intro h_41), if_neg (not_not_intro h_57), if_neg (not_not_intro h_73)]), fun b hb hb7 => ((fr_85 b hb).trans ((fr_68 b hb hb7).trans ((fr_52 b hb).trans ((fr_36 b hb hb7).trans ((fr_20 b hb).trans (fr_4 b hb hb7))))))⟩
set_option maxRecDepth 100000 in
set_option maxHeartbeats 4000000 in
theorem ct_X6_faultOf (l : Launch) (μ : Nat → Nat) (q g : Int → Int) (pa rd : Int → Int) : Ct l yX6_faultOf cX6_faultOf 2 (some .int) 3 0 0 (fun ca av L M => av = [.ref (μ 0)] ∧ MuOk μ L ∧ M (μ 0) = oMd μ q ∧ M (μ 1) = cI ca 110 g ∧ M (μ 8) = cC ca 60 pa ∧ InvP pa ∧ (0 ≤ q 0 ∧ q 0 ≤ 60) ∧ M (μ 7) = cI ca 33 rd) (fun ca av L M r L1 M1 => r = some (.int (iI (foB pa (q 0)))) ∧ L = L1 ∧ (∃ (a : Int) (f : Int → Int), M1 (μ 0) = oMd μ (up (up q 2 (foK pa (q 0))) 3 a) ∧ M1 (μ 7) = cI ca 33 f ∧ ∀ k, 0 ≤ k → k < 3 * foK pa (q 0) → f k = foR pa (q 0) k) ∧ (0 ≤ foK pa (q 0) ∧ foK pa (q 0) ≤ 10) ∧ (-1 ≤ foB pa (q 0) ∧ foB pa (q 0) ≤ 60) ∧ ∀ b, b ≠ μ 0 → b ≠ μ 7 → M1 b = M b) := by
  refine Ct_of (own := RX6) (by decide) rfl (by rintro _ _ _ _ ⟨rfl, _⟩; exact Nat.le_of_ble_eq_true rfl) ?_
  rintro p e s m args below meth c D ca A av L M ⟨rfl, hμ, hMo, hMs, hM8, hP, hq0, hM7⟩ X hret hname
  refine g_lv (lv' := [(0, .ref (μ 0))]) [0] rfl ?_
  generalize hQ : MQ below _ args s _ _ A = Q
  have lp : ∀ (n : Nat) (fu : Nat) (x : Bool × PS) (z t a : Int) (M1 : Mem) (f : Int → Int) (hz : z = if x.1 = true then 1 else 0) (hx : foL pa (q 0) fu x = foP pa (q 0) rd0) (hps : psE (f, t, a) x.2) (ht0 : 0 ≤ t) (hta : 6 * t ≤ a + 1) (ha0 : 0 ≤ a) (ha1 : a ≤ 60) (hfu : 60 ≤ a + fu ∨ z = 0) (ht10 : t ≤ 10) (n0 : M1 (μ 0) = .inr (6, [.ref (μ 1), .ref (μ 2), .ref (μ 3), .ref (μ 4), .ref (μ 5), .ref (μ 6), .ref (μ 7), .ref (μ 8), .int (iI (q 0)), .int (iI (q 1)), .int (iI t), .int (iI a)])) (n1 : M1 (μ 1) = cI ca 110 g) (n7 : M1 (μ 7) = cI ca 33 f) (n8 : M1 (μ 8) = cC ca 60 pa) (hfr : ∀ b, b ≠ μ 0 → b ≠ μ 7 → M1 b = M b) (hm : 60 - a + z < (n : Int)), G p l e (Rm 3 0 0) s m args below meth c D A 2 Q 0 0 L M1 15 [(0, .ref (μ 0)), (1, .int (iI z))] [] := by
    intro n
    induction n with
    | zero =>
      intro fu x z t a M1 f hz hx hps ht0 hta ha0 ha1 hfu ht10 n0 n1 n7 n8 hfr hm
      exfalso; have : z = 0 ∨ z = 1 := by (rw [hz]; split <;> simp)
      omega
    | succ n ih =>
      intro fu x z t a M1 f hz hx hps ht0 hta ha0 ha1 hfu ht10 n0 n1 n7 n8 hfr hm
      have hz01 : z = 0 ∨ z = 1 := by rw [hz]; split <;> simp
      refine g_iload_n X 1 rfl dX6_faultOf_15 rfl ?_
      refine g_if_eq X ⟨by omega, by omega⟩ (tgt := 55) dX6_faultOf_16 (by decide) rfl (fun h_1 => ?_) (fun h_1 => ?_)
      · refine g_iload_n X 1 rfl dX6_faultOf_55 rfl ?_
        refine g_if_eq X ⟨by omega, by omega⟩ (tgt := 63) dX6_faultOf_56 (by decide) rfl (fun h_2 => ?_) (fun h_2 => ?_)
        · refine g_aload_n X 0 rfl dX6_faultOf_63 rfl ?_
          refine g_get X cl_X6 11 (by decide) wf_X6_96 rfl (hμ.mem 0 (by decide)) n0 rfl dX6_faultOf_64 rfl ?_
          subst hQ
          have hE : foP pa (q 0) rd0 = x := by rw [← hx]; exact foL_stop (by rw [← hps.2.1]; dsimp only; intro hc; rw [if_pos hc.1] at hz; omega)
          have hK : foK pa (q 0) = t := by rw [foK, hE]; exact hps.1.symm
          have hx1 : x.1 = false := by cases hb : x.1 <;> rw [hb] at hz <;> simp at hz ⊢ <;> omega
          have hB : foB pa (q 0) = a := by rw [foB, hE, hx1]; exact hps.2.1.symm
          exact g_iret X hret ⟨Nat.le_of_ble_eq_true rfl, Nat.le_of_ble_eq_true rfl⟩ dX6_faultOf_67 ⟨by rw [hB], rfl, ⟨a, f, (n0).trans (by rw [hK]; rfl), n7, fun k k0 k1 => by rw [foR, hE]; exact hps.2.2 k k0 (by rw [hK] at k1; exact k1)⟩, by omega, by omega, fun b hb hb7 => (hfr b hb hb7)⟩
        · refine g_iconst X (z := -1) dX6_faultOf_59 rfl ?_
          refine g_goto X (n := 67) dX6_faultOf_60 (by decide) ?_
          subst hQ
          have hE : foP pa (q 0) rd0 = x := by rw [← hx]; exact foL_stop (by rw [← hps.2.1]; dsimp only; omega)
          have hK : foK pa (q 0) = t := by rw [foK, hE]; exact hps.1.symm
          have hx1 : x.1 = true := by cases hb : x.1 <;> rw [hb] at hz <;> simp at hz ⊢ <;> omega
          have hB : foB pa (q 0) = (-1) := by rw [foB, hE, hx1]; rfl
          exact g_iret X hret ⟨Nat.le_of_ble_eq_true rfl, Nat.le_of_ble_eq_true rfl⟩ dX6_faultOf_67 ⟨by rw [hB], rfl, ⟨a, f, (n0).trans (by rw [hK]; rfl), n7, fun k k0 k1 => by rw [foR, hE]; exact hps.2.2 k k0 (by rw [hK] at k1; exact k1)⟩, by omega, by omega, fun b hb hb7 => (hfr b hb hb7)⟩
      · refine g_aload_n X 0 rfl dX6_faultOf_19 rfl ?_
        refine g_get X cl_X6 11 (by decide) wf_X6_96 rfl (hμ.mem 0 (by decide)) n0 rfl dX6_faultOf_20 rfl ?_
        refine g_aload_n X 0 rfl dX6_faultOf_23 rfl ?_
        refine g_get X cl_X6 8 (by decide) wf_X6_99 rfl (hμ.mem 0 (by decide)) n0 rfl dX6_faultOf_24 rfl ?_
        refine g_icmp_ge X ⟨by omega, by omega⟩ ⟨by omega, by omega⟩ (tgt := 55) dX6_faultOf_27 (by decide) rfl (fun h_3 => ?_) (fun h_3 => ?_)
        · refine g_iload_n X 1 rfl dX6_faultOf_55 rfl ?_
          refine g_if_eq X ⟨by omega, by omega⟩ (tgt := 63) dX6_faultOf_56 (by decide) rfl (fun h_4 => ?_) (fun h_4 => ?_)
          · refine g_aload_n X 0 rfl dX6_faultOf_63 rfl ?_
            refine g_get X cl_X6 11 (by decide) wf_X6_96 rfl (hμ.mem 0 (by decide)) n0 rfl dX6_faultOf_64 rfl ?_
            subst hQ
            have hE : foP pa (q 0) rd0 = x := by rw [← hx]; exact foL_stop (by rw [← hps.2.1]; dsimp only; intro hc; rw [if_pos hc.1] at hz; omega)
            have hK : foK pa (q 0) = t := by rw [foK, hE]; exact hps.1.symm
            have hx1 : x.1 = false := by cases hb : x.1 <;> rw [hb] at hz <;> simp at hz ⊢ <;> omega
            have hB : foB pa (q 0) = a := by rw [foB, hE, hx1]; exact hps.2.1.symm
            exact g_iret X hret ⟨Nat.le_of_ble_eq_true rfl, Nat.le_of_ble_eq_true rfl⟩ dX6_faultOf_67 ⟨by rw [hB], rfl, ⟨a, f, (n0).trans (by rw [hK]; rfl), n7, fun k k0 k1 => by rw [foR, hE]; exact hps.2.2 k k0 (by rw [hK] at k1; exact k1)⟩, by omega, by omega, fun b hb hb7 => (hfr b hb hb7)⟩
          · refine g_iconst X (z := -1) dX6_faultOf_59 rfl ?_
            refine g_goto X (n := 67) dX6_faultOf_60 (by decide) ?_
            subst hQ
            have hE : foP pa (q 0) rd0 = x := by rw [← hx]; exact foL_stop (by rw [← hps.2.1]; dsimp only; omega)
            have hK : foK pa (q 0) = t := by rw [foK, hE]; exact hps.1.symm
            have hx1 : x.1 = true := by cases hb : x.1 <;> rw [hb] at hz <;> simp at hz ⊢ <;> omega
            have hB : foB pa (q 0) = (-1) := by rw [foB, hE, hx1]; rfl
            exact g_iret X hret ⟨Nat.le_of_ble_eq_true rfl, Nat.le_of_ble_eq_true rfl⟩ dX6_faultOf_67 ⟨by rw [hB], rfl, ⟨a, f, (n0).trans (by rw [hK]; rfl), n7, fun k k0 k1 => by rw [foR, hE]; exact hps.2.2 k k0 (by rw [hK] at k1; exact k1)⟩, by omega, by omega, fun b hb hb7 => (hfr b hb hb7)⟩
        · refine g_aload_n X 0 rfl dX6_faultOf_30 rfl ?_
          refine g_bipush X (z := 59) (by decide +kernel) dX6_faultOf_31 rfl ?_
          refine g_callV X (ct_X6_accepts l μ (up (up q 2 t) 3 a) g pa 59) (As := [.int (iI 59)]) (rest := []) cl_X6 rfl ca_X6_accepts rfl wm_X6_112 wi_X6_accepts ws_X6_accepts wc_X6_accepts w0_X6 ⟨by decide, by decide⟩ (hμ.mem 0 (by decide)) n0 (by decide) ⟨by decide, by decide⟩ rfl dX6_faultOf_33 rfl ⟨rfl, hμ, n0, n1, n8, hP, hq0, (show 0 ≤ a ∧ a ≤ 60 from by omega), ⟨by decide, by decide⟩⟩ (fun r1 L1 M_5 hq => ?_)
          obtain ⟨rfl, rfl, hM_6, fr_7⟩ := hq
          have hM_8 : M_5 (μ 0) = .inr (6, [.ref (μ 1), .ref (μ 2), .ref (μ 3), .ref (μ 4), .ref (μ 5), .ref (μ 6), .ref (μ 7), .ref (μ 8), .int (iI (q 0)), .int (iI (q 1)), .int (iI t), .int (iI (a + if isSg pa (q 0) a 59 59 then 1 else 0))]) := hM_6
          have hM_9 : M_5 (μ 1) = cI ca 110 g := (fr_7 _ (hμ.ne (i := 1) (j := 0) (by decide) (by decide) (by decide))).trans n1
          have hM_10 : M_5 (μ 7) = cI ca 33 f := (fr_7 _ (hμ.ne (i := 7) (j := 0) (by decide) (by decide) (by decide))).trans n7
          have hM_11 : M_5 (μ 8) = cC ca 60 pa := (fr_7 _ (hμ.ne (i := 8) (j := 0) (by decide) (by decide) (by decide))).trans n8
          refine g_st (st' := [.int (iI (if isSg pa (q 0) a 59 59 then 1 else 0))]) rfl ?_
          refine g_if_eqb X (tgt := 50) dX6_faultOf_36 (by decide) rfl (fun h_12 => ?_) (fun h_12 => ?_)
          · rw [if_neg h_12, Int.add_zero] at hM_8
            refine g_iconst X (z := 0) dX6_faultOf_50 rfl ?_
            refine g_istore_n X (lv' := [(1, .int (iI 0)), (0, .ref (μ 0))]) (by decide) rfl dX6_faultOf_51 rfl ?_
            refine g_goto X (n := 15) dX6_faultOf_52 (by decide) ?_
            have hx1 : x.1 = true := by cases hb : x.1 <;> rw [hb] at hz <;> simp at hz ⊢; omega
            have hfu : 0 < fu := by omega
            obtain ⟨f2, rfl⟩ : ∃ f2, fu = f2 + 1 := ⟨fu - 1, by omega⟩
            have hx2 : foL pa (q 0) f2 (foN pa (q 0) x.2) = foP pa (q 0) rd0 := by rw [← hx]; simp only [foL]; rw [if_pos ⟨hx1, by rw [← hps.2.1]; dsimp only; omega⟩]
            have hN := foN_E (pa := pa) (len := q 0) hps (by dsimp only; omega)
            have hN2 := hN.2 h_12
            refine g_lv (lv' := [(0, .ref (μ 0)), (1, .int (iI 0))]) [1, 0] rfl ?_
            exact ih f2 (foN pa (q 0) x.2) _ t a _ f (by rw [hN2]; rfl) hx2 (by rw [hN2]; exact hps) (by omega) (by omega) (by omega) (by omega) (by omega) (by omega) hM_8 hM_9 hM_10 hM_11 (fun b hb hb7 => ((fr_7 b hb).trans (hfr b hb hb7))) (by omega)
          · rw [if_pos h_12] at hM_8
            refine g_aload_n X 0 rfl dX6_faultOf_39 rfl ?_
            refine g_callV X (ct_X6_readsStream l μ (up (up q 2 t) 3 (a + 1)) g pa f) (As := []) (rest := []) cl_X6 rfl ca_X6_readsStream rfl wm_X6_116 wi_X6_readsStream ws_X6_readsStream wc_X6_readsStream w0_X6 ⟨by decide, by decide⟩ (hμ.mem 0 (by decide)) hM_8 (by decide) ⟨by decide, by decide⟩ rfl dX6_faultOf_40 rfl ⟨rfl, hμ, hM_8, hM_9, hM_11, hP, hq0, (show 0 ≤ a + 1 ∧ (a + 1) ≤ 60 from by omega), hM_10, (show 0 ≤ t ∧ t ≤ 10 from by omega)⟩ (fun r1 L1 M_13 hq => ?_)
            obtain ⟨rfl, rfl, hM_14, hM_15, fr_16⟩ := hq
            have hM_17 : M_13 (μ 0) = .inr (6, [.ref (μ 1), .ref (μ 2), .ref (μ 3), .ref (μ 4), .ref (μ 5), .ref (μ 6), .ref (μ 7), .ref (μ 8), .int (iI (q 0)), .int (iI (q 1)), .int (iI ((rsS pa (q 0) (f, t, a + 1)).2.1)), .int (iI ((rsS pa (q 0) (f, t, a + 1)).2.2))]) := hM_14
            have hM_18 : M_13 (μ 7) = cI ca 33 ((rsS pa (q 0) (f, t, a + 1)).1) := hM_15
            have hM_19 : M_13 (μ 1) = cI ca 110 g := (fr_16 _ (hμ.ne (i := 1) (j := 0) (by decide) (by decide) (by decide)) (hμ.ne (i := 1) (j := 7) (by decide) (by decide) (by decide))).trans hM_9
            have hM_20 : M_13 (μ 8) = cC ca 60 pa := (fr_16 _ (hμ.ne (i := 8) (j := 0) (by decide) (by decide) (by decide)) (hμ.ne (i := 8) (j := 7) (by decide) (by decide) (by decide))).trans hM_11
            refine g_st (st' := [.int (iI (if rsT pa (q 0) (a + 1) then 1 else 0))]) rfl ?_
            refine g_if_eqb X (tgt := 50) dX6_faultOf_43 (by decide) rfl (fun h_21 => ?_) (fun h_21 => ?_)
            · refine g_iconst X (z := 0) dX6_faultOf_50 rfl ?_
              refine g_istore_n X (lv' := [(1, .int (iI 0)), (0, .ref (μ 0))]) (by decide) rfl dX6_faultOf_51 rfl ?_
              refine g_goto X (n := 15) dX6_faultOf_52 (by decide) ?_
              have hx1 : x.1 = true := by cases hb : x.1 <;> rw [hb] at hz <;> simp at hz ⊢; omega
              have hfu : 0 < fu := by omega
              obtain ⟨f2, rfl⟩ : ∃ f2, fu = f2 + 1 := ⟨fu - 1, by omega⟩
              have hx2 : foL pa (q 0) f2 (foN pa (q 0) x.2) = foP pa (q 0) rd0 := by rw [← hx]; simp only [foL]; rw [if_pos ⟨hx1, by rw [← hps.2.1]; dsimp only; omega⟩]
              have hN := foN_E (pa := pa) (len := q 0) hps (by dsimp only; omega)
              have hN1 := hN.1 h_12
              have hrg := rsS_rng (pa := pa) hq0.2 (f, t, a + 1) (by dsimp only; omega) (by dsimp only; omega) (by dsimp only; omega)
              dsimp only at hrg
              have hrt := hrg.2.2.2.2 h_21
              refine g_lv (lv' := [(0, .ref (μ 0)), (1, .int (iI 0))]) [1, 0] rfl ?_
              exact ih f2 (foN pa (q 0) x.2) _ (rsS pa (q 0) (f, t, a + 1)).2.1 (rsS pa (q 0) (f, t, a + 1)).2.2 _ (rsS pa (q 0) (f, t, a + 1)).1 (by rw [hN1.1]; dsimp only; exact (if_neg (fun q => h_21 (of_decide_eq_true q))).symm) hx2 hN1.2 (by omega) (by omega) (by omega) (by omega) (by omega) (by omega) hM_17 hM_19 hM_18 hM_20 (fun b hb hb7 => ((fr_16 b hb hb7).trans ((fr_7 b hb).trans (hfr b hb hb7)))) (by omega)
            · refine g_iconst X (z := 1) dX6_faultOf_46 rfl ?_
              refine g_goto X (n := 51) dX6_faultOf_47 (by decide) ?_
              refine g_istore_n X (lv' := [(1, .int (iI 1)), (0, .ref (μ 0))]) (by decide) rfl dX6_faultOf_51 rfl ?_
              refine g_goto X (n := 15) dX6_faultOf_52 (by decide) ?_
              have hx1 : x.1 = true := by cases hb : x.1 <;> rw [hb] at hz <;> simp at hz ⊢; omega
              have hfu : 0 < fu := by omega
              obtain ⟨f2, rfl⟩ : ∃ f2, fu = f2 + 1 := ⟨fu - 1, by omega⟩
              have hx2 : foL pa (q 0) f2 (foN pa (q 0) x.2) = foP pa (q 0) rd0 := by rw [← hx]; simp only [foL]; rw [if_pos ⟨hx1, by rw [← hps.2.1]; dsimp only; omega⟩]
              have hN := foN_E (pa := pa) (len := q 0) hps (by dsimp only; omega)
              have hN1 := hN.1 h_12
              have hrg := rsS_rng (pa := pa) hq0.2 (f, t, a + 1) (by dsimp only; omega) (by dsimp only; omega) (by dsimp only; omega)
              dsimp only at hrg
              have hrt := hrg.2.2.2.1 h_21
              refine g_lv (lv' := [(0, .ref (μ 0)), (1, .int (iI 1))]) [1, 0] rfl ?_
              exact ih f2 (foN pa (q 0) x.2) _ (rsS pa (q 0) (f, t, a + 1)).2.1 (rsS pa (q 0) (f, t, a + 1)).2.2 _ (rsS pa (q 0) (f, t, a + 1)).1 (by rw [hN1.1]; dsimp only; exact (if_pos (decide_eq_true h_21)).symm) hx2 hN1.2 (by omega) (by omega) (by omega) (by omega) (by omega) (by omega) hM_17 hM_19 hM_18 hM_20 (fun b hb hb7 => ((fr_16 b hb hb7).trans ((fr_7 b hb).trans (hfr b hb hb7)))) (by omega)
  refine g_aload_n X 0 rfl dX6_faultOf_0 rfl ?_
  refine g_iconst X (z := 0) dX6_faultOf_1 rfl ?_
  refine g_put X cl_X6 11 (by decide) wf_X6_96 rfl (hμ.mem 0 (by decide)) hMo rfl rfl rfl (Nat.le_of_ble_eq_true rfl) (fs' := [.ref (μ 1), .ref (μ 2), .ref (μ 3), .ref (μ 4), .ref (μ 5), .ref (μ 6), .ref (μ 7), .ref (μ 8), .int (iI (q 0)), .int (iI (q 1)), .int (iI (q 2)), .int (iI 0)]) rfl dX6_faultOf_2 rfl (fun M_22 hM_23 fr_24 => ?_)
  have hM_25 : M_22 (μ 1) = cI ca 110 g := (fr_24 (μ 1) (hμ.ne (i := 1) (j := 0) (by decide) (by decide) (by decide))).trans hMs
  have hM_26 : M_22 (μ 8) = cC ca 60 pa := (fr_24 (μ 8) (hμ.ne (i := 8) (j := 0) (by decide) (by decide) (by decide))).trans hM8
  have hM_27 : M_22 (μ 7) = cI ca 33 rd := (fr_24 (μ 7) (hμ.ne (i := 7) (j := 0) (by decide) (by decide) (by decide))).trans hM7
  refine g_aload_n X 0 rfl dX6_faultOf_5 rfl ?_
  refine g_iconst X (z := 0) dX6_faultOf_6 rfl ?_
  refine g_put X cl_X6 10 (by decide) wf_X6_106 rfl (hμ.mem 0 (by decide)) hM_23 rfl rfl rfl (Nat.le_of_ble_eq_true rfl) (fs' := [.ref (μ 1), .ref (μ 2), .ref (μ 3), .ref (μ 4), .ref (μ 5), .ref (μ 6), .ref (μ 7), .ref (μ 8), .int (iI (q 0)), .int (iI (q 1)), .int (iI 0), .int (iI 0)]) rfl dX6_faultOf_7 rfl (fun M_28 hM_29 fr_30 => ?_)
  have hM_31 : M_28 (μ 1) = cI ca 110 g := (fr_30 (μ 1) (hμ.ne (i := 1) (j := 0) (by decide) (by decide) (by decide))).trans hM_25
  have hM_32 : M_28 (μ 8) = cC ca 60 pa := (fr_30 (μ 8) (hμ.ne (i := 8) (j := 0) (by decide) (by decide) (by decide))).trans hM_26
  have hM_33 : M_28 (μ 7) = cI ca 33 rd := (fr_30 (μ 7) (hμ.ne (i := 7) (j := 0) (by decide) (by decide) (by decide))).trans hM_27
  refine g_aload_n X 0 rfl dX6_faultOf_10 rfl ?_
  refine g_callV X (ct_X6_readsStream l μ (up (up q 2 0) 3 0) g pa rd) (As := []) (rest := []) cl_X6 rfl ca_X6_readsStream rfl wm_X6_116 wi_X6_readsStream ws_X6_readsStream wc_X6_readsStream w0_X6 ⟨by decide, by decide⟩ (hμ.mem 0 (by decide)) hM_29 (by decide) ⟨by decide, by decide⟩ rfl dX6_faultOf_11 rfl ⟨rfl, hμ, hM_29, hM_31, hM_32, hP, hq0, (show 0 ≤ 0 ∧ 0 ≤ 60 from by omega), hM_33, (show 0 ≤ 0 ∧ 0 ≤ 10 from by omega)⟩ (fun r1 L1 M_34 hq => ?_)
  obtain ⟨rfl, rfl, hM_35, hM_36, fr_37⟩ := hq
  have hM_38 : M_34 (μ 0) = .inr (6, [.ref (μ 1), .ref (μ 2), .ref (μ 3), .ref (μ 4), .ref (μ 5), .ref (μ 6), .ref (μ 7), .ref (μ 8), .int (iI (q 0)), .int (iI (q 1)), .int (iI ((rsS pa (q 0) (rd, 0, 0)).2.1)), .int (iI ((rsS pa (q 0) (rd, 0, 0)).2.2))]) := hM_35
  have hM_39 : M_34 (μ 7) = cI ca 33 ((rsS pa (q 0) (rd, 0, 0)).1) := hM_36
  have hM_40 : M_34 (μ 1) = cI ca 110 g := (fr_37 _ (hμ.ne (i := 1) (j := 0) (by decide) (by decide) (by decide)) (hμ.ne (i := 1) (j := 7) (by decide) (by decide) (by decide))).trans hM_31
  have hM_41 : M_34 (μ 8) = cC ca 60 pa := (fr_37 _ (hμ.ne (i := 8) (j := 0) (by decide) (by decide) (by decide)) (hμ.ne (i := 8) (j := 7) (by decide) (by decide) (by decide))).trans hM_32
  refine g_st (st' := [.int (iI (if rsT pa (q 0) 0 then 1 else 0))]) rfl ?_
  refine g_istore_n X (lv' := [(1, .int (iI (if rsT pa (q 0) 0 then 1 else 0))), (0, .ref (μ 0))]) (by decide) rfl dX6_faultOf_14 rfl ?_
  have hrg := rsS_rng (pa := pa) hq0.2 (rd, 0, 0) (Int.le_refl 0) (show (0 : Int) ≤ 60 by decide) (Int.le_refl 0)
  dsimp only at hrg
  have hrt := hrg.2.2.2.1
  have hrf := hrg.2.2.2.2
  have ht1 : (rsS pa (q 0) (rd, 0, 0)).2.1 = 0 ∨ ((rsS pa (q 0) (rd, 0, 0)).2.1 = 1 ∧ 5 ≤ (rsS pa (q 0) (rd, 0, 0)).2.2) := by
    by_cases hc : rsT pa (q 0) 0
    · right; have := hrt hc; omega
    · left; exact hrf hc
  refine g_lv (lv' := [(0, .ref (μ 0)), (1, .int (iI (if rsT pa (q 0) 0 then 1 else 0)))]) [1, 0] rfl ?_
  exact lp 70 60 (decide (rsT pa (q 0) 0), rsS pa (q 0) (rd0, 0, 0)) _ (rsS pa (q 0) (rd, 0, 0)).2.1 (rsS pa (q 0) (rd, 0, 0)).2.2 _ (rsS pa (q 0) (rd, 0, 0)).1 (by dsimp only; exact ite_dec) rfl (rsS_E (s := (rd, 0, 0)) (z := (rd0, 0, 0)) ⟨rfl, rfl, fun k k0 k1 => by dsimp only at k1; omega⟩ (Int.le_refl 0)) (by omega) (by omega) (by omega) (by omega) (by omega) (by omega) hM_38 hM_40 hM_39 hM_41 (fun b hb hb7 => ((fr_37 b hb hb7).trans ((fr_30 b hb).trans (fr_24 b hb)))) (by split <;> omega)
set_option maxRecDepth 100000 in
set_option maxHeartbeats 4000000 in
theorem ct_X6_fault (l : Launch) (μ : Nat → Nat) (q g : Int → Int) (sp tr be sa iz rd pa : Int → Int) : Ct l yX6_fault cX6_fault 2 (some .int) 4 0 0 (fun ca av L M => av = [.ref (μ 0)] ∧ MuOk μ L ∧ M (μ 0) = oMd μ q ∧ M (μ 1) = cI ca 110 g ∧ M (μ 2) = cI ca 110 sp ∧ M (μ 3) = cI ca 110 tr ∧ M (μ 4) = cI ca 660 be ∧ M (μ 5) = cI ca 220 sa ∧ M (μ 6) = cZ ca 2 iz ∧ M (μ 7) = cI ca 33 rd ∧ M (μ 8) = cC ca 60 pa ∧ Inv g ∧ (0 ≤ q 0 ∧ q 0 ≤ 60) ∧ (0 ≤ q 1 ∧ q 1 ≤ 6) ∧ InvP pa) (fun ca av L M r L1 M1 => r = some (.int (iI (anFault (g, be, sa, iz, pa, q 0, q 1)))) ∧ L = L1 ∧ Md ca M1 μ ((g, be, sa, iz, pa, q 0, q 1)) ∧ ∀ b, (∀ i, i < 9 → b ≠ μ i) → M1 b = M b) := by
  refine Ct_of (own := RX6) (by decide) rfl (by rintro _ _ _ _ ⟨rfl, _⟩; exact Nat.le_of_ble_eq_true rfl) ?_
  rintro p e s m args below meth c D ca A av L M ⟨rfl, hμ, hMo, hMs, hM2, hM3, hM4, hM5, hM6, hM7, hM8, hI, hq0, hq1, hP⟩ X hret hname
  refine g_lv (lv' := [(0, .ref (μ 0))]) [0] rfl ?_
  refine g_aload_n X 0 rfl dX6_fault_0 rfl ?_
  refine g_callV X (ct_X6_faultOf l μ q g pa rd) (As := []) (rest := []) cl_X6 rfl ca_X6_faultOf rfl wm_X6_120 wi_X6_faultOf ws_X6_faultOf wc_X6_faultOf w0_X6 ⟨by decide, by decide⟩ (hμ.mem 0 (by decide)) hMo (by decide) ⟨by decide, by decide⟩ rfl dX6_fault_1 rfl ⟨rfl, hμ, hMo, hMs, hM8, hP, hq0, hM7⟩ (fun r1 L1 M_1 hq => ?_)
  obtain ⟨rfl, rfl, ⟨a_6, f_7, hM_3, hM_4, hk_5⟩, hKr, hBr, fr_2⟩ := hq
  have hM_8 : M_1 (μ 0) = .inr (6, [.ref (μ 1), .ref (μ 2), .ref (μ 3), .ref (μ 4), .ref (μ 5), .ref (μ 6), .ref (μ 7), .ref (μ 8), .int (iI (q 0)), .int (iI (q 1)), .int (iI (foK pa (q 0))), .int (iI a_6)]) := hM_3
  have hM_9 : M_1 (μ 1) = cI ca 110 g := (fr_2 _ (hμ.ne (i := 1) (j := 0) (by decide) (by decide) (by decide)) (hμ.ne (i := 1) (j := 7) (by decide) (by decide) (by decide))).trans hMs
  have hM_10 : M_1 (μ 2) = cI ca 110 sp := (fr_2 _ (hμ.ne (i := 2) (j := 0) (by decide) (by decide) (by decide)) (hμ.ne (i := 2) (j := 7) (by decide) (by decide) (by decide))).trans hM2
  have hM_11 : M_1 (μ 3) = cI ca 110 tr := (fr_2 _ (hμ.ne (i := 3) (j := 0) (by decide) (by decide) (by decide)) (hμ.ne (i := 3) (j := 7) (by decide) (by decide) (by decide))).trans hM3
  have hM_12 : M_1 (μ 4) = cI ca 660 be := (fr_2 _ (hμ.ne (i := 4) (j := 0) (by decide) (by decide) (by decide)) (hμ.ne (i := 4) (j := 7) (by decide) (by decide) (by decide))).trans hM4
  have hM_13 : M_1 (μ 5) = cI ca 220 sa := (fr_2 _ (hμ.ne (i := 5) (j := 0) (by decide) (by decide) (by decide)) (hμ.ne (i := 5) (j := 7) (by decide) (by decide) (by decide))).trans hM5
  have hM_14 : M_1 (μ 6) = cZ ca 2 iz := (fr_2 _ (hμ.ne (i := 6) (j := 0) (by decide) (by decide) (by decide)) (hμ.ne (i := 6) (j := 7) (by decide) (by decide) (by decide))).trans hM6
  have hM_15 : M_1 (μ 8) = cC ca 60 pa := (fr_2 _ (hμ.ne (i := 8) (j := 0) (by decide) (by decide) (by decide)) (hμ.ne (i := 8) (j := 7) (by decide) (by decide) (by decide))).trans hM8
  refine g_st (st' := [.int (iI (foB pa (q 0)))]) rfl ?_
  refine g_istore_n X (lv' := [(1, .int (iI (foB pa (q 0)))), (0, .ref (μ 0))]) (by decide) rfl dX6_fault_4 rfl ?_
  refine g_iload_n X 0 rfl dX6_fault_5 rfl ?_
  refine g_if_ge X ⟨by omega, by omega⟩ (tgt := 14) dX6_fault_6 (by decide) rfl (fun h_16 => ?_) (fun h_16 => ?_)
  · refine g_iload_n X 0 rfl dX6_fault_14 rfl ?_
    exact g_iret X hret ⟨Nat.le_of_ble_eq_true rfl, Nat.le_of_ble_eq_true rfl⟩ dX6_fault_15 ⟨by rw [anFault, if_neg (by first | omega | (dsimp only; omega))], rfl, ⟨(up (up q 2 (foK pa (q 0))) 3 a_6), _, _, _, rfl, rfl, hM_8, hM_9, hM_10, hM_11, hM_12, hM_13, hM_14, hM_4, hM_15⟩, (fun b hb => (fr_2 b (hb 0 (by decide)) (hb 7 (by decide))))⟩
  · refine g_bipush X (z := -6) (by decide +kernel) dX6_fault_9 rfl ?_
    refine g_goto X (n := 15) dX6_fault_11 (by decide) ?_
    exact g_iret X hret ⟨Nat.le_of_ble_eq_true rfl, Nat.le_of_ble_eq_true rfl⟩ dX6_fault_15 ⟨by rw [anFault, if_pos (by first | omega | (dsimp only; omega))], rfl, ⟨(up (up q 2 (foK pa (q 0))) 3 a_6), _, _, _, rfl, rfl, hM_8, hM_9, hM_10, hM_11, hM_12, hM_13, hM_14, hM_4, hM_15⟩, (fun b hb => (fr_2 b (hb 0 (by decide)) (hb 7 (by decide))))⟩
set_option maxRecDepth 100000 in
set_option maxHeartbeats 4000000 in
theorem ct_X6_read (l : Launch) (μ : Nat → Nat) (q g : Int → Int) (sp tr be sa iz rd pa : Int → Int) : Ct l yX6_read cX6_read 3 (some .int) 4 0 0 (fun ca av L M => av = [.ref (μ 0)] ∧ MuOk μ L ∧ M (μ 0) = oMd μ q ∧ M (μ 1) = cI ca 110 g ∧ M (μ 2) = cI ca 110 sp ∧ M (μ 3) = cI ca 110 tr ∧ M (μ 4) = cI ca 660 be ∧ M (μ 5) = cI ca 220 sa ∧ M (μ 6) = cZ ca 2 iz ∧ M (μ 7) = cI ca 33 rd ∧ M (μ 8) = cC ca 60 pa ∧ Inv g ∧ (0 ≤ q 0 ∧ q 0 ≤ 60) ∧ (0 ≤ q 1 ∧ q 1 ≤ 6) ∧ InvP pa) (fun ca av L M r L1 M1 => r = some (.int (iI (anRead (g, be, sa, iz, pa, q 0, q 1)))) ∧ L = L1 ∧ Md ca M1 μ (opRead (g, be, sa, iz, pa, q 0, q 1)) ∧ ∀ b, (∀ i, i < 9 → b ≠ μ i) → M1 b = M b) := by
  refine Ct_of (own := RX6) (by decide) rfl (by rintro _ _ _ _ ⟨rfl, _⟩; exact Nat.le_of_ble_eq_true rfl) ?_
  rintro p e s m args below meth c D ca A av L M ⟨rfl, hμ, hMo, hMs, hM2, hM3, hM4, hM5, hM6, hM7, hM8, hI, hq0, hq1, hP⟩ X hret hname
  refine g_lv (lv' := [(0, .ref (μ 0))]) [0] rfl ?_
  generalize hQ : MQ below _ args s _ _ A = Q
  obtain ⟨⟨i00, i01⟩, ⟨i10, i11⟩, ⟨i20, i21⟩, ⟨i30, i31⟩, ⟨i40, i41⟩, i50, i51⟩ := id hI.1
  have lp : ∀ (n : Nat) (k : Nat) (y a : Int) (M1 : Mem) (f rd2 : Int → Int) (hB : ¬ foB pa (q 0) ≥ 0) (hK : ¬ g 5 + foK pa (q 0) > 4) (hKr : 0 ≤ foK pa (q 0) ∧ foK pa (q 0) ≤ 10) (hrd : ∀ k, 0 ≤ k → k < 3 * foK pa (q 0) → rd2 k = foR pa (q 0) k) (hy : y = k) (hyk : y ≤ foK pa (q 0)) (hf : f = rdS g (foR pa (q 0)) k) (n0 : M1 (μ 0) = .inr (6, [.ref (μ 1), .ref (μ 2), .ref (μ 3), .ref (μ 4), .ref (μ 5), .ref (μ 6), .ref (μ 7), .ref (μ 8), .int (iI (q 0)), .int (iI (q 1)), .int (iI (foK pa (q 0))), .int (iI a)])) (n1 : M1 (μ 1) = cI ca 110 f) (n2 : M1 (μ 2) = cI ca 110 g) (n3 : M1 (μ 3) = cI ca 110 tr) (n4 : M1 (μ 4) = cI ca 660 be) (n5 : M1 (μ 5) = cI ca 220 sa) (n6 : M1 (μ 6) = cZ ca 2 iz) (n7 : M1 (μ 7) = cI ca 33 rd2) (n8 : M1 (μ 8) = cC ca 60 pa) (hfr : ∀ b, b ≠ μ 0 → b ≠ μ 1 → b ≠ μ 2 → b ≠ μ 7 → M1 b = M b) (hm : foK pa (q 0) - y < (n : Int)), G p l e (Rm 4 0 0) s m args below meth c D A 3 Q 0 0 L M1 34 [(0, .ref (μ 0)), (1, .int (iI y))] [] := by
    intro n
    induction n with
    | zero =>
      intro k y a M1 f rd2 hB hK hKr hrd hy hyk hf n0 n1 n2 n3 n4 n5 n6 n7 n8 hfr hm
      exfalso; omega
    | succ n ih =>
      intro k y a M1 f rd2 hB hK hKr hrd hy hyk hf n0 n1 n2 n3 n4 n5 n6 n7 n8 hfr hm
      have f5 : f 5 = g 5 + k := by rw [hf, rdS_5]
      refine g_iload_n X 1 rfl dX6_read_34 rfl ?_
      refine g_aload_n X 0 rfl dX6_read_35 rfl ?_
      refine g_get X cl_X6 10 (by decide) wf_X6_106 rfl (hμ.mem 0 (by decide)) n0 rfl dX6_read_36 rfl ?_
      refine g_icmp_ge X ⟨by omega, by omega⟩ ⟨by omega, by omega⟩ (tgt := 81) dX6_read_39 (by decide) rfl (fun h_1 => ?_) (fun h_1 => ?_)
      · refine g_aload_n X 0 rfl dX6_read_81 rfl ?_
        refine g_iconst X (z := 0) dX6_read_82 rfl ?_
        refine g_put X cl_X6 8 (by decide) wf_X6_99 rfl (hμ.mem 0 (by decide)) n0 rfl rfl rfl (Nat.le_of_ble_eq_true rfl) (fs' := [.ref (μ 1), .ref (μ 2), .ref (μ 3), .ref (μ 4), .ref (μ 5), .ref (μ 6), .ref (μ 7), .ref (μ 8), .int (iI 0), .int (iI (q 1)), .int (iI (foK pa (q 0))), .int (iI a)]) rfl dX6_read_83 rfl (fun M_2 hM_3 fr_4 => ?_)
        have hM_5 : M_2 (μ 1) = cI ca 110 f := (fr_4 (μ 1) (hμ.ne (i := 1) (j := 0) (by decide) (by decide) (by decide))).trans n1
        have hM_6 : M_2 (μ 2) = cI ca 110 g := (fr_4 (μ 2) (hμ.ne (i := 2) (j := 0) (by decide) (by decide) (by decide))).trans n2
        have hM_7 : M_2 (μ 3) = cI ca 110 tr := (fr_4 (μ 3) (hμ.ne (i := 3) (j := 0) (by decide) (by decide) (by decide))).trans n3
        have hM_8 : M_2 (μ 4) = cI ca 660 be := (fr_4 (μ 4) (hμ.ne (i := 4) (j := 0) (by decide) (by decide) (by decide))).trans n4
        have hM_9 : M_2 (μ 5) = cI ca 220 sa := (fr_4 (μ 5) (hμ.ne (i := 5) (j := 0) (by decide) (by decide) (by decide))).trans n5
        have hM_10 : M_2 (μ 6) = cZ ca 2 iz := (fr_4 (μ 6) (hμ.ne (i := 6) (j := 0) (by decide) (by decide) (by decide))).trans n6
        have hM_11 : M_2 (μ 7) = cI ca 33 rd2 := (fr_4 (μ 7) (hμ.ne (i := 7) (j := 0) (by decide) (by decide) (by decide))).trans n7
        have hM_12 : M_2 (μ 8) = cC ca 60 pa := (fr_4 (μ 8) (hμ.ne (i := 8) (j := 0) (by decide) (by decide) (by decide))).trans n8
        refine g_aload_n X 0 rfl dX6_read_86 rfl ?_
        refine g_aload_n X 0 rfl dX6_read_87 rfl ?_
        refine g_get X cl_X6 0 (by decide) wf_X6_7 rfl (hμ.mem 0 (by decide)) hM_3 rfl dX6_read_88 rfl ?_
        refine g_iconst X (z := 5) dX6_read_91 rfl ?_
        refine g_iald X (hμ.mem 1 (by decide)) hM_5 ⟨by decide, by decide⟩ (by decide) dX6_read_92 rfl ?_
        refine g_callV X (ct_X6_recorded l μ (up (up (up q 0 0) 2 (foK pa (q 0))) 3 a) f g be (f 5)) (As := [.int (iI (f 5))]) (rest := []) cl_X6 rfl ca_X6_recorded rfl wm_X6_85 wi_X6_recorded ws_X6_recorded wc_X6_recorded w0_X6 ⟨by decide, by decide⟩ (hμ.mem 0 (by decide)) hM_3 (by decide) ⟨by decide, by decide⟩ rfl dX6_read_93 rfl ⟨rfl, hμ, hM_3, hM_5, hM_6, hM_8, hq1.1, hq1.2⟩ (fun r1 L1 M_13 hq => ?_)
        obtain ⟨rfl, rfl, hM_14, hM_15, fr_16⟩ := hq
        have hM_17 : M_13 (μ 1) = cI ca 110 f := (fr_16 _ (hμ.ne (i := 1) (j := 0) (by decide) (by decide) (by decide)) (hμ.ne (i := 1) (j := 4) (by decide) (by decide) (by decide))).trans hM_5
        have hM_18 : M_13 (μ 2) = cI ca 110 g := (fr_16 _ (hμ.ne (i := 2) (j := 0) (by decide) (by decide) (by decide)) (hμ.ne (i := 2) (j := 4) (by decide) (by decide) (by decide))).trans hM_6
        have hM_19 : M_13 (μ 3) = cI ca 110 tr := (fr_16 _ (hμ.ne (i := 3) (j := 0) (by decide) (by decide) (by decide)) (hμ.ne (i := 3) (j := 4) (by decide) (by decide) (by decide))).trans hM_7
        have hM_20 : M_13 (μ 5) = cI ca 220 sa := (fr_16 _ (hμ.ne (i := 5) (j := 0) (by decide) (by decide) (by decide)) (hμ.ne (i := 5) (j := 4) (by decide) (by decide) (by decide))).trans hM_9
        have hM_21 : M_13 (μ 6) = cZ ca 2 iz := (fr_16 _ (hμ.ne (i := 6) (j := 0) (by decide) (by decide) (by decide)) (hμ.ne (i := 6) (j := 4) (by decide) (by decide) (by decide))).trans hM_10
        have hM_22 : M_13 (μ 7) = cI ca 33 rd2 := (fr_16 _ (hμ.ne (i := 7) (j := 0) (by decide) (by decide) (by decide)) (hμ.ne (i := 7) (j := 4) (by decide) (by decide) (by decide))).trans hM_11
        have hM_23 : M_13 (μ 8) = cC ca 60 pa := (fr_16 _ (hμ.ne (i := 8) (j := 0) (by decide) (by decide) (by decide)) (hμ.ne (i := 8) (j := 4) (by decide) (by decide) (by decide))).trans hM_12
        refine g_st (st' := [.int (iI (f 5))]) rfl ?_
        subst hQ
        have hk2 : (foK pa (q 0)).toNat = k := by omega
        rw [hf, ← hk2] at hM_17
        exact g_iret X hret ⟨Nat.le_of_ble_eq_true rfl, Nat.le_of_ble_eq_true rfl⟩ dX6_read_96 ⟨by rw [anRead, if_neg (by first | omega | (dsimp only; omega)), if_neg (by first | omega | (dsimp only; omega)), hf, rdS_5, ← hk2]; dsimp only; congr 3; omega, rfl, by rw [opRead, if_pos (by first | omega | (dsimp only; omega))]; exact ⟨(up (up (up (up q 0 0) 1 (recN (q 1))) 2 (foK pa (q 0))) 3 a), _, _, _, rfl, rfl, hM_14, hM_17, hM_18, hM_19, hM_15, hM_20, hM_21, hM_22, hM_23⟩, (fun b hb => ((fr_16 b (hb 0 (by decide)) (hb 4 (by decide))).trans ((fr_4 b (hb 0 (by decide))).trans (hfr b (hb 0 (by decide)) (hb 1 (by decide)) (hb 2 (by decide)) (hb 7 (by decide))))))⟩
      · refine g_aload_n X 0 rfl dX6_read_42 rfl ?_
        refine g_aload_n X 0 rfl dX6_read_43 rfl ?_
        refine g_get X cl_X6 6 (by decide) wf_X6_29 rfl (hμ.mem 0 (by decide)) n0 rfl dX6_read_44 rfl ?_
        refine g_iconst X (z := 3) dX6_read_47 rfl ?_
        refine g_iload_n X 1 rfl dX6_read_48 rfl ?_
        refine g_imul X dX6_read_49 rfl ?_
        refine g_iald X (hμ.mem 7 (by decide)) n7 ⟨by omega, by omega⟩ (by decide) dX6_read_50 rfl ?_
        refine g_aload_n X 0 rfl dX6_read_51 rfl ?_
        refine g_get X cl_X6 6 (by decide) wf_X6_29 rfl (hμ.mem 0 (by decide)) n0 rfl dX6_read_52 rfl ?_
        refine g_iconst X (z := 3) dX6_read_55 rfl ?_
        refine g_iload_n X 1 rfl dX6_read_56 rfl ?_
        refine g_imul X dX6_read_57 rfl ?_
        refine g_iconst X (z := 1) dX6_read_58 rfl ?_
        refine g_iadd X dX6_read_59 rfl ?_
        refine g_iald X (hμ.mem 7 (by decide)) n7 ⟨by omega, by omega⟩ (by decide) dX6_read_60 rfl ?_
        refine g_aload_n X 0 rfl dX6_read_61 rfl ?_
        refine g_get X cl_X6 6 (by decide) wf_X6_29 rfl (hμ.mem 0 (by decide)) n0 rfl dX6_read_62 rfl ?_
        refine g_iconst X (z := 3) dX6_read_65 rfl ?_
        refine g_iload_n X 1 rfl dX6_read_66 rfl ?_
        refine g_imul X dX6_read_67 rfl ?_
        refine g_iconst X (z := 2) dX6_read_68 rfl ?_
        refine g_iadd X dX6_read_69 rfl ?_
        refine g_iald X (hμ.mem 7 (by decide)) n7 ⟨by omega, by omega⟩ (by decide) dX6_read_70 rfl ?_
        refine g_callV X (ct_X6_puts l μ (up (up q 2 (foK pa (q 0))) 3 a) f (rd2 (3 * y)) (rd2 ((3 * y) + 1)) (rd2 ((3 * y) + 2))) (As := [.int (iI (rd2 (3 * y))), .int (iI (rd2 ((3 * y) + 1))), .int (iI (rd2 ((3 * y) + 2)))]) (rest := []) cl_X6 rfl ca_X6_puts rfl wm_X6_88 wi_X6_puts ws_X6_puts wc_X6_puts w0_X6 ⟨by decide, by decide⟩ (hμ.mem 0 (by decide)) n0 (by decide) ⟨by decide, by decide⟩ rfl dX6_read_71 rfl ⟨rfl, hμ, n0, n1, by omega, by omega⟩ (fun r1 L1 M_24 hq => ?_)
        obtain ⟨rfl, rfl, hM_25, fr_26⟩ := hq
        have hM_27 : M_24 (μ 0) = .inr (6, [.ref (μ 1), .ref (μ 2), .ref (μ 3), .ref (μ 4), .ref (μ 5), .ref (μ 6), .ref (μ 7), .ref (μ 8), .int (iI (q 0)), .int (iI (q 1)), .int (iI (foK pa (q 0))), .int (iI a)]) := (fr_26 (μ 0) (hμ.ne (i := 0) (j := 1) (by decide) (by decide) (by decide))).trans n0
        have hM_28 : M_24 (μ 2) = cI ca 110 g := (fr_26 (μ 2) (hμ.ne (i := 2) (j := 1) (by decide) (by decide) (by decide))).trans n2
        have hM_29 : M_24 (μ 3) = cI ca 110 tr := (fr_26 (μ 3) (hμ.ne (i := 3) (j := 1) (by decide) (by decide) (by decide))).trans n3
        have hM_30 : M_24 (μ 4) = cI ca 660 be := (fr_26 (μ 4) (hμ.ne (i := 4) (j := 1) (by decide) (by decide) (by decide))).trans n4
        have hM_31 : M_24 (μ 5) = cI ca 220 sa := (fr_26 (μ 5) (hμ.ne (i := 5) (j := 1) (by decide) (by decide) (by decide))).trans n5
        have hM_32 : M_24 (μ 6) = cZ ca 2 iz := (fr_26 (μ 6) (hμ.ne (i := 6) (j := 1) (by decide) (by decide) (by decide))).trans n6
        have hM_33 : M_24 (μ 7) = cI ca 33 rd2 := (fr_26 (μ 7) (hμ.ne (i := 7) (j := 1) (by decide) (by decide) (by decide))).trans n7
        have hM_34 : M_24 (μ 8) = cC ca 60 pa := (fr_26 (μ 8) (hμ.ne (i := 8) (j := 1) (by decide) (by decide) (by decide))).trans n8
        refine g_st (st' := [.int (iI (f 5))]) rfl ?_
        refine g_istore_n X (lv' := [(2, .int (iI (f 5))), (0, .ref (μ 0)), (1, .int (iI y))]) (by decide) rfl dX6_read_74 rfl ?_
        refine g_iinc X (lv' := [(1, .int (iI (y + 1))), (2, .int (iI (f 5))), (0, .ref (μ 0))]) 2 rfl (by decide) rfl dX6_read_75 rfl ?_
        refine g_goto X (n := 34) dX6_read_78 (by decide) ?_
        refine g_lv (lv' := [(0, .ref (μ 0)), (1, .int (iI (y + 1)))]) [2, 0] rfl ?_
        exact ih (k + 1) _ a _ _ rd2 hB hK hKr hrd (by omega) (by omega) (by simp only [rdS]; rw [hf, hrd _ (by omega) (by omega), hrd _ (by omega) (by omega), hrd _ (by omega) (by omega), hy]) hM_27 hM_25 hM_28 hM_29 hM_30 hM_31 hM_32 hM_33 hM_34 (fun b hb0 hb1 hb2 hb7 => ((fr_26 b hb1).trans (hfr b hb0 hb1 hb2 hb7))) (by omega)
  refine g_aload_n X 0 rfl dX6_read_0 rfl ?_
  refine g_callV X (ct_X6_faultOf l μ q g pa rd) (As := []) (rest := []) cl_X6 rfl ca_X6_faultOf rfl wm_X6_120 wi_X6_faultOf ws_X6_faultOf wc_X6_faultOf w0_X6 ⟨by decide, by decide⟩ (hμ.mem 0 (by decide)) hMo (by decide) ⟨by decide, by decide⟩ rfl dX6_read_1 rfl ⟨rfl, hμ, hMo, hMs, hM8, hP, hq0, hM7⟩ (fun r1 L1 M_35 hq => ?_)
  obtain ⟨rfl, rfl, ⟨a_40, f_41, hM_37, hM_38, hk_39⟩, hKr, hBr, fr_36⟩ := hq
  have hM_42 : M_35 (μ 0) = .inr (6, [.ref (μ 1), .ref (μ 2), .ref (μ 3), .ref (μ 4), .ref (μ 5), .ref (μ 6), .ref (μ 7), .ref (μ 8), .int (iI (q 0)), .int (iI (q 1)), .int (iI (foK pa (q 0))), .int (iI a_40)]) := hM_37
  have hM_43 : M_35 (μ 1) = cI ca 110 g := (fr_36 _ (hμ.ne (i := 1) (j := 0) (by decide) (by decide) (by decide)) (hμ.ne (i := 1) (j := 7) (by decide) (by decide) (by decide))).trans hMs
  have hM_44 : M_35 (μ 2) = cI ca 110 sp := (fr_36 _ (hμ.ne (i := 2) (j := 0) (by decide) (by decide) (by decide)) (hμ.ne (i := 2) (j := 7) (by decide) (by decide) (by decide))).trans hM2
  have hM_45 : M_35 (μ 3) = cI ca 110 tr := (fr_36 _ (hμ.ne (i := 3) (j := 0) (by decide) (by decide) (by decide)) (hμ.ne (i := 3) (j := 7) (by decide) (by decide) (by decide))).trans hM3
  have hM_46 : M_35 (μ 4) = cI ca 660 be := (fr_36 _ (hμ.ne (i := 4) (j := 0) (by decide) (by decide) (by decide)) (hμ.ne (i := 4) (j := 7) (by decide) (by decide) (by decide))).trans hM4
  have hM_47 : M_35 (μ 5) = cI ca 220 sa := (fr_36 _ (hμ.ne (i := 5) (j := 0) (by decide) (by decide) (by decide)) (hμ.ne (i := 5) (j := 7) (by decide) (by decide) (by decide))).trans hM5
  have hM_48 : M_35 (μ 6) = cZ ca 2 iz := (fr_36 _ (hμ.ne (i := 6) (j := 0) (by decide) (by decide) (by decide)) (hμ.ne (i := 6) (j := 7) (by decide) (by decide) (by decide))).trans hM6
  have hM_49 : M_35 (μ 8) = cC ca 60 pa := (fr_36 _ (hμ.ne (i := 8) (j := 0) (by decide) (by decide) (by decide)) (hμ.ne (i := 8) (j := 7) (by decide) (by decide) (by decide))).trans hM8
  refine g_st (st' := [.int (iI (foB pa (q 0)))]) rfl ?_
  refine g_if_lt X ⟨by omega, by omega⟩ (tgt := 10) dX6_read_4 (by decide) rfl (fun h_50 => ?_) (fun h_50 => ?_)
  · refine g_aload_n X 0 rfl dX6_read_10 rfl ?_
    refine g_get X cl_X6 0 (by decide) wf_X6_7 rfl (hμ.mem 0 (by decide)) hM_42 rfl dX6_read_11 rfl ?_
    refine g_iconst X (z := 5) dX6_read_14 rfl ?_
    refine g_iald X (hμ.mem 1 (by decide)) hM_43 ⟨by decide, by decide⟩ (by decide) dX6_read_15 rfl ?_
    refine g_aload_n X 0 rfl dX6_read_16 rfl ?_
    refine g_get X cl_X6 10 (by decide) wf_X6_106 rfl (hμ.mem 0 (by decide)) hM_42 rfl dX6_read_17 rfl ?_
    refine g_iadd X dX6_read_20 rfl ?_
    refine g_iconst X (z := 4) dX6_read_21 rfl ?_
    refine g_icmp_le X ⟨by omega, by omega⟩ ⟨by decide, by decide⟩ (tgt := 28) dX6_read_22 (by decide) rfl (fun h_51 => ?_) (fun h_51 => ?_)
    · refine g_aload_n X 0 rfl dX6_read_28 rfl ?_
      refine g_callV X (ct_X6_hold l μ (up (up q 2 (foK pa (q 0))) 3 a_40) g sp) (As := []) (rest := []) cl_X6 rfl ca_X6_hold rfl wm_X6_79 wi_X6_hold ws_X6_hold wc_X6_hold w0_X6 ⟨by decide, by decide⟩ (hμ.mem 0 (by decide)) hM_42 (by decide) ⟨by decide, by decide⟩ rfl dX6_read_29 rfl ⟨rfl, hμ, hM_42, hM_43, hM_44⟩ (fun r1 L1 M_52 hq => ?_)
      obtain ⟨rfl, rfl, hM_53, fr_54⟩ := hq
      have hM_55 : M_52 (μ 1) = cI ca 110 g := (fr_54 (μ 1) (hμ.ne (i := 1) (j := 2) (by decide) (by decide) (by decide))).trans hM_43
      have hM_56 : M_52 (μ 3) = cI ca 110 tr := (fr_54 (μ 3) (hμ.ne (i := 3) (j := 2) (by decide) (by decide) (by decide))).trans hM_45
      have hM_57 : M_52 (μ 4) = cI ca 660 be := (fr_54 (μ 4) (hμ.ne (i := 4) (j := 2) (by decide) (by decide) (by decide))).trans hM_46
      have hM_58 : M_52 (μ 5) = cI ca 220 sa := (fr_54 (μ 5) (hμ.ne (i := 5) (j := 2) (by decide) (by decide) (by decide))).trans hM_47
      have hM_59 : M_52 (μ 6) = cZ ca 2 iz := (fr_54 (μ 6) (hμ.ne (i := 6) (j := 2) (by decide) (by decide) (by decide))).trans hM_48
      have hM_60 : M_52 (μ 8) = cC ca 60 pa := (fr_54 (μ 8) (hμ.ne (i := 8) (j := 2) (by decide) (by decide) (by decide))).trans hM_49
      have hM_61 : M_52 (μ 0) = .inr (6, [.ref (μ 1), .ref (μ 2), .ref (μ 3), .ref (μ 4), .ref (μ 5), .ref (μ 6), .ref (μ 7), .ref (μ 8), .int (iI (q 0)), .int (iI (q 1)), .int (iI (foK pa (q 0))), .int (iI a_40)]) := (fr_54 (μ 0) (hμ.ne (i := 0) (j := 2) (by decide) (by decide) (by decide))).trans hM_42
      have hM_62 : M_52 (μ 7) = cI ca 33 f_41 := (fr_54 (μ 7) (hμ.ne (i := 7) (j := 2) (by decide) (by decide) (by decide))).trans hM_38
      refine g_st (st' := []) rfl ?_
      refine g_iconst X (z := 0) dX6_read_32 rfl ?_
      refine g_istore_n X (lv' := [(1, .int (iI 0)), (0, .ref (μ 0))]) (by decide) rfl dX6_read_33 rfl ?_
      refine g_lv (lv' := [(0, .ref (μ 0)), (1, .int (iI 0))]) [1, 0] rfl ?_
      exact lp 20 0 _ _ _ _ _ (by omega) (by omega) hKr hk_39 rfl (by omega) rfl hM_61 hM_55 hM_53 hM_56 hM_57 hM_58 hM_59 hM_62 hM_60 (fun b hb0 hb1 hb2 hb7 => ((fr_54 b hb2).trans (fr_36 b hb0 hb7))) (by omega)
    · refine g_bipush X (z := -4) (by decide +kernel) dX6_read_25 rfl ?_
      subst hQ
      exact g_iret X hret ⟨Nat.le_of_ble_eq_true rfl, Nat.le_of_ble_eq_true rfl⟩ dX6_read_27 ⟨by rw [anRead, if_neg (by first | omega | (dsimp only; omega)), if_pos (by first | omega | (dsimp only; omega))], rfl, by rw [opRead, if_neg (by first | omega | (dsimp only; omega))]; exact ⟨(up (up q 2 (foK pa (q 0))) 3 a_40), _, _, _, rfl, rfl, hM_42, hM_43, hM_44, hM_45, hM_46, hM_47, hM_48, hM_38, hM_49⟩, (fun b hb => (fr_36 b (hb 0 (by decide)) (hb 7 (by decide))))⟩
  · refine g_bipush X (z := -3) (by decide +kernel) dX6_read_7 rfl ?_
    subst hQ
    exact g_iret X hret ⟨Nat.le_of_ble_eq_true rfl, Nat.le_of_ble_eq_true rfl⟩ dX6_read_9 ⟨by rw [anRead, if_pos (by first | omega | (dsimp only; omega))], rfl, by rw [opRead, if_neg (by first | omega | (dsimp only; omega))]; exact ⟨(up (up q 2 (foK pa (q 0))) 3 a_40), _, _, _, rfl, rfl, hM_42, hM_43, hM_44, hM_45, hM_46, hM_47, hM_48, hM_38, hM_49⟩, (fun b hb => (fr_36 b (hb 0 (by decide)) (hb 7 (by decide))))⟩
