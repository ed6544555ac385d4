/-! the reference: what there is; saved states -/
set_option maxRecDepth 100000 in
set_option maxHeartbeats 4000000 in
theorem ct_X6_bank (l : Launch) (μ : Nat → Nat) (q g : Int → Int) (sp tr be sa iz rd pa : Int → Int) (b0 w : Int) : Ct l yX6_bank cX6_bank 3 (some .int) 4 0 0 (fun ca av L M => av = [.ref (μ 0), .int (iI b0), .int (iI w)] ∧ MuOk μ L ∧ M (μ 0) = oMd μ q ∧ M (μ 1) = cI ca 110 g ∧ M (μ 2) = cI ca 110 sp ∧ M (μ 3) = cI ca 110 tr ∧ M (μ 4) = cI ca 660 be ∧ M (μ 5) = cI ca 220 sa ∧ M (μ 6) = cZ ca 2 iz ∧ M (μ 7) = cI ca 33 rd ∧ M (μ 8) = cC ca 60 pa ∧ Inv g ∧ (0 ≤ q 0 ∧ q 0 ≤ 60) ∧ (0 ≤ q 1 ∧ q 1 ≤ 6) ∧ R32 b0 ∧ R32 w) (fun ca av L M r L1 M1 => r = some (.int (iI (anBank (g, be, sa, iz, pa, q 0, q 1) b0 w))) ∧ L = L1 ∧ Md ca M1 μ ((g, be, sa, iz, pa, q 0, q 1)) ∧ ∀ b, (∀ i, i < 9 → b ≠ μ i) → M1 b = M b) := by
  refine Ct_of (own := RX6) (by decide) rfl (by rintro _ _ _ _ ⟨rfl, _⟩; exact Nat.le_of_ble_eq_true rfl) ?_
  rintro p e s m args below meth c D ca A av L M ⟨rfl, hμ, hMo, hMs, hM2, hM3, hM4, hM5, hM6, hM7, hM8, hI, hq0, hq1, hb0, hw⟩ X hret hname
  refine g_lv (lv' := [(0, .ref (μ 0)), (1, .int (iI b0)), (2, .int (iI w))]) [0, 1, 2] rfl ?_
  obtain ⟨⟨i00, i01⟩, ⟨i10, i11⟩, ⟨i20, i21⟩, ⟨i30, i31⟩, ⟨i40, i41⟩, i50, i51⟩ := id hI.1
  refine g_iload_n X 1 rfl dX6_bank_0 rfl ?_
  refine g_iconst X (z := 0) dX6_bank_1 rfl ?_
  refine g_aload_n X 0 rfl dX6_bank_2 rfl ?_
  refine g_get X cl_X6 0 (by decide) wf_X6_7 rfl (hμ.mem 0 (by decide)) hMo rfl dX6_bank_3 rfl ?_
  refine g_iconst X (z := 0) dX6_bank_6 rfl ?_
  refine g_iald X (hμ.mem 1 (by decide)) hMs ⟨by decide, by decide⟩ (by decide) dX6_bank_7 rfl ?_
  refine g_iconst X (z := 1) dX6_bank_8 rfl ?_
  refine g_isub X dX6_bank_9 rfl ?_
  refine g_callS X (ct_X6_in l b0 0 (g 0 - 1)) (As := [.int (iI b0), .int (iI 0), .int (iI (g 0 - 1))]) (rest := []) rfl ca_X6_in rfl wm_X6_36 wt_X6_in wc_X6_in w0_X6 ⟨by decide, by decide⟩ (by decide) ⟨by decide, by decide⟩ rfl dX6_bank_10 rfl ⟨rfl, hb0, ⟨by decide, by decide⟩, ⟨by omega, by omega⟩⟩ (fun r1 L1 M1 hq => ?_)
  obtain ⟨rfl, rfl, rfl⟩ := hq
  refine g_st (st' := [.int (iI (if 0 ≤ b0 ∧ b0 ≤ (g 0 - 1) then 1 else 0))]) rfl ?_
  refine g_if_neb X (tgt := 18) dX6_bank_13 (by decide) rfl (fun h_1 => ?_) (fun h_1 => ?_)
  · refine g_iload_n X 2 rfl dX6_bank_18 rfl ?_
    by_cases h_2 : 0 ≤ w ∧ w ≤ 3
    · have h_2a : w = 0 ∨ w = 1 ∨ w = 2 ∨ w = 3 := by omega
      rcases h_2a with h_2a | h_2a | h_2a | h_2a
      · refine g_tsIn X dX6_bank_19 hw 0 h_2a (by decide) (by decide) rfl (by decide : _ = ((48 : Nat) : Int)) ?_
        refine g_aload_n X 0 rfl dX6_bank_48 rfl ?_
        refine g_iload_n X 1 rfl dX6_bank_49 rfl ?_
        refine g_callV X (ct_X6_busy l μ q g b0) (As := [.int (iI b0)]) (rest := []) cl_X6 rfl ca_X6_busy rfl wm_X6_126 wi_X6_busy ws_X6_busy wc_X6_busy w0_X6 ⟨by decide, by decide⟩ (hμ.mem 0 (by decide)) hMo (by decide) ⟨by decide, by decide⟩ rfl dX6_bank_50 rfl ⟨rfl, hμ, hMo, hMs, by omega, by omega, hI⟩ (fun r1 L1 M1 hq => ?_)
        obtain ⟨rfl, rfl, rfl⟩ := hq
        refine g_st (st' := [.int (iI (bsyG g b0))]) rfl ?_
        exact g_iret X hret ⟨Nat.le_of_ble_eq_true rfl, Nat.le_of_ble_eq_true rfl⟩ dX6_bank_53 ⟨by rw [anBank, if_pos h_1, if_pos (by omega)], rfl, ⟨q, _, _, _, rfl, rfl, hMo, hMs, hM2, hM3, hM4, hM5, hM6, hM7, hM8⟩, (fun b hb => rfl)⟩
      · refine g_tsIn X dX6_bank_19 hw 1 h_2a (by decide) (by decide) rfl (by decide : _ = ((54 : Nat) : Int)) ?_
        refine g_aload_n X 0 rfl dX6_bank_54 rfl ?_
        refine g_get X cl_X6 0 (by decide) wf_X6_7 rfl (hμ.mem 0 (by decide)) hMo rfl dX6_bank_55 rfl ?_
        refine g_iload_n X 1 rfl dX6_bank_58 rfl ?_
        refine g_callS X (ct_X6_b l b0) (As := [.int (iI b0)]) (rest := [.ref (μ 1)]) rfl ca_X6_b rfl wm_X6_59 wt_X6_b wc_X6_b w0_X6 ⟨by decide, by decide⟩ (Nat.le_of_ble_eq_true rfl) ⟨by decide, by decide⟩ rfl dX6_bank_59 rfl ⟨rfl, trivial⟩ (fun r1 L1 M1 hq => ?_)
        obtain ⟨rfl, rfl, rfl⟩ := hq
        refine g_st (st' := [.int (iI (6 + 4 * b0)), .ref (μ 1)]) rfl ?_
        refine g_iload_n X 2 rfl dX6_bank_62 rfl ?_
        refine g_iadd X dX6_bank_63 rfl ?_
        refine g_iconst X (z := 1) dX6_bank_64 rfl ?_
        refine g_iadd X dX6_bank_65 rfl ?_
        refine g_iald X (hμ.mem 1 (by decide)) hMs ⟨by omega, by omega⟩ (by decide) dX6_bank_66 rfl ?_
        exact g_iret X hret ⟨Nat.le_of_ble_eq_true rfl, Nat.le_of_ble_eq_true rfl⟩ dX6_bank_67 ⟨by rw [anBank, if_pos h_1, if_neg (by omega), if_pos (by omega), show (6 : Int) + 4 * b0 + w + 1 = 6 + 4 * b0 + 2 by omega], rfl, ⟨q, _, _, _, rfl, rfl, hMo, hMs, hM2, hM3, hM4, hM5, hM6, hM7, hM8⟩, (fun b hb => rfl)⟩
      · refine g_tsIn X dX6_bank_19 hw 2 h_2a (by decide) (by decide) rfl (by decide : _ = ((54 : Nat) : Int)) ?_
        refine g_aload_n X 0 rfl dX6_bank_54 rfl ?_
        refine g_get X cl_X6 0 (by decide) wf_X6_7 rfl (hμ.mem 0 (by decide)) hMo rfl dX6_bank_55 rfl ?_
        refine g_iload_n X 1 rfl dX6_bank_58 rfl ?_
        refine g_callS X (ct_X6_b l b0) (As := [.int (iI b0)]) (rest := [.ref (μ 1)]) rfl ca_X6_b rfl wm_X6_59 wt_X6_b wc_X6_b w0_X6 ⟨by decide, by decide⟩ (Nat.le_of_ble_eq_true rfl) ⟨by decide, by decide⟩ rfl dX6_bank_59 rfl ⟨rfl, trivial⟩ (fun r1 L1 M1 hq => ?_)
        obtain ⟨rfl, rfl, rfl⟩ := hq
        refine g_st (st' := [.int (iI (6 + 4 * b0)), .ref (μ 1)]) rfl ?_
        refine g_iload_n X 2 rfl dX6_bank_62 rfl ?_
        refine g_iadd X dX6_bank_63 rfl ?_
        refine g_iconst X (z := 1) dX6_bank_64 rfl ?_
        refine g_iadd X dX6_bank_65 rfl ?_
        refine g_iald X (hμ.mem 1 (by decide)) hMs ⟨by omega, by omega⟩ (by decide) dX6_bank_66 rfl ?_
        exact g_iret X hret ⟨Nat.le_of_ble_eq_true rfl, Nat.le_of_ble_eq_true rfl⟩ dX6_bank_67 ⟨by rw [anBank, if_pos h_1, if_neg (by omega), if_neg (by omega), if_pos (by omega), show (6 : Int) + 4 * b0 + w + 1 = 6 + 4 * b0 + 3 by omega], rfl, ⟨q, _, _, _, rfl, rfl, hMo, hMs, hM2, hM3, hM4, hM5, hM6, hM7, hM8⟩, (fun b hb => rfl)⟩
      · refine g_tsIn X dX6_bank_19 hw 3 h_2a (by decide) (by decide) rfl (by decide : _ = ((68 : Nat) : Int)) ?_
        refine g_aload_n X 0 rfl dX6_bank_68 rfl ?_
        refine g_iload_n X 1 rfl dX6_bank_69 rfl ?_
        refine g_callV X (ct_X6_wordsIn l μ q g b0) (As := [.int (iI b0)]) (rest := []) cl_X6 rfl ca_X6_wordsIn rfl wm_X6_129 wi_X6_wordsIn ws_X6_wordsIn wc_X6_wordsIn w0_X6 ⟨by decide, by decide⟩ (hμ.mem 0 (by decide)) hMo (by decide) ⟨by decide, by decide⟩ rfl dX6_bank_70 rfl ⟨rfl, hμ, hMo, hMs, hI, hb0⟩ (fun r1 L1 M1 hq => ?_)
        obtain ⟨rfl, rfl, rfl⟩ := hq
        refine g_st (st' := [.int (iI (wiG g b0))]) rfl ?_
        exact g_iret X hret ⟨Nat.le_of_ble_eq_true rfl, Nat.le_of_ble_eq_true rfl⟩ dX6_bank_73 ⟨by rw [anBank, if_pos h_1, if_neg (by omega), if_neg (by omega), if_neg (by omega), if_pos (by omega)], rfl, ⟨q, _, _, _, rfl, rfl, hMo, hMs, hM2, hM3, hM4, hM5, hM6, hM7, hM8⟩, (fun b hb => rfl)⟩
    · refine g_tsOut X dX6_bank_19 hw (by omega) (by decide : _ = ((74 : Nat) : Int)) ?_
      refine g_bipush X (z := -2) (by decide +kernel) dX6_bank_74 rfl ?_
      exact g_iret X hret ⟨Nat.le_of_ble_eq_true rfl, Nat.le_of_ble_eq_true rfl⟩ dX6_bank_76 ⟨by rw [anBank, if_pos h_1, if_neg (by omega), if_neg (by omega), if_neg (by omega), if_neg (by omega)], rfl, ⟨q, _, _, _, rfl, rfl, hMo, hMs, hM2, hM3, hM4, hM5, hM6, hM7, hM8⟩, (fun b hb => rfl)⟩
  · refine g_iconst X (z := -1) dX6_bank_16 rfl ?_
    exact g_iret X hret ⟨Nat.le_of_ble_eq_true rfl, Nat.le_of_ble_eq_true rfl⟩ dX6_bank_17 ⟨by rw [anBank, if_neg h_1], rfl, ⟨q, _, _, _, rfl, rfl, hMo, hMs, hM2, hM3, hM4, hM5, hM6, hM7, hM8⟩, (fun b hb => rfl)⟩
set_option maxRecDepth 100000 in
set_option maxHeartbeats 4000000 in
theorem ct_X6_count (l : Launch) (μ : Nat → Nat) (q g : Int → Int) (sp tr be sa iz rd pa : Int → Int) (w : Int) : Ct l yX6_count cX6_count 2 (some .int) 4 0 0 (fun ca av L M => av = [.ref (μ 0), .int (iI w)] ∧ MuOk μ L ∧ M (μ 0) = oMd μ q ∧ M (μ 1) = cI ca 110 g ∧ M (μ 2) = cI ca 110 sp ∧ M (μ 3) = cI ca 110 tr ∧ M (μ 4) = cI ca 660 be ∧ M (μ 5) = cI ca 220 sa ∧ M (μ 6) = cZ ca 2 iz ∧ M (μ 7) = cI ca 33 rd ∧ M (μ 8) = cC ca 60 pa ∧ Inv g ∧ (0 ≤ q 0 ∧ q 0 ≤ 60) ∧ (0 ≤ q 1 ∧ q 1 ≤ 6) ∧ R32 w) (fun ca av L M r L1 M1 => r = some (.int (iI (anCount (g, be, sa, iz, pa, q 0, q 1) w))) ∧ L = L1 ∧ Md ca M1 μ ((g, be, sa, iz, pa, q 0, q 1)) ∧ ∀ b, (∀ i, i < 9 → b ≠ μ i) → M1 b = M b) := by
  refine Ct_of (own := RX6) (by decide) rfl (by rintro _ _ _ _ ⟨rfl, _⟩; exact Nat.le_of_ble_eq_true rfl) ?_
  rintro p e s m args below meth c D ca A av L M ⟨rfl, hμ, hMo, hMs, hM2, hM3, hM4, hM5, hM6, hM7, hM8, hI, hq0, hq1, hw⟩ X hret hname
  refine g_lv (lv' := [(0, .ref (μ 0)), (1, .int (iI w))]) [0, 1] rfl ?_
  obtain ⟨⟨i00, i01⟩, ⟨i10, i11⟩, ⟨i20, i21⟩, ⟨i30, i31⟩, ⟨i40, i41⟩, i50, i51⟩ := id hI.1
  refine g_iload_n X 1 rfl dX6_count_0 rfl ?_
  refine g_iconst X (z := 0) dX6_count_1 rfl ?_
  refine g_iconst X (z := 5) dX6_count_2 rfl ?_
  refine g_callS X (ct_X6_in l w 0 5) (As := [.int (iI w), .int (iI 0), .int (iI 5)]) (rest := []) rfl ca_X6_in rfl wm_X6_36 wt_X6_in wc_X6_in w0_X6 ⟨by decide, by decide⟩ (by decide) ⟨by decide, by decide⟩ rfl dX6_count_3 rfl ⟨rfl, hw, ⟨by decide, by decide⟩, ⟨by decide, by decide⟩⟩ (fun r1 L1 M1 hq => ?_)
  obtain ⟨rfl, rfl, rfl⟩ := hq
  refine g_st (st' := [.int (iI (if 0 ≤ w ∧ w ≤ 5 then 1 else 0))]) rfl ?_
  refine g_if_eqb X (tgt := 16) dX6_count_6 (by decide) rfl (fun h_1 => ?_) (fun h_1 => ?_)
  · refine g_iload_n X 1 rfl dX6_count_16 rfl ?_
    by_cases h_2 : 6 ≤ w ∧ w ≤ 13
    · have h_2a : w = 6 ∨ w = 7 ∨ w = 8 ∨ w = 9 ∨ w = 10 ∨ w = 11 ∨ w = 12 ∨ w = 13 := by omega
      rcases h_2a with h_2a | h_2a | h_2a | h_2a | h_2a | h_2a | h_2a | h_2a
      · refine g_tsIn X dX6_count_17 hw 6 h_2a (by decide) (by decide) rfl (by decide : _ = ((64 : Nat) : Int)) ?_
        refine g_aload_n X 0 rfl dX6_count_64 rfl ?_
        refine g_callV X (ct_X6_wordsLeft l μ q g) (As := []) (rest := []) cl_X6 rfl ca_X6_wordsLeft rfl wm_X6_69 wi_X6_wordsLeft ws_X6_wordsLeft wc_X6_wordsLeft w0_X6 ⟨by decide, by decide⟩ (hμ.mem 0 (by decide)) hMo (by decide) ⟨by decide, by decide⟩ rfl dX6_count_65 rfl ⟨rfl, hμ, hMo, hMs, by omega, by omega⟩ (fun r1 L1 M1 hq => ?_)
        obtain ⟨rfl, rfl, rfl⟩ := hq
        refine g_st (st' := [.int (iI (wlG g))]) rfl ?_
        exact g_iret X hret ⟨Nat.le_of_ble_eq_true rfl, Nat.le_of_ble_eq_true rfl⟩ dX6_count_68 ⟨by rw [anCount, if_neg (by omega), if_pos (by omega)], rfl, ⟨q, _, _, _, rfl, rfl, hMo, hMs, hM2, hM3, hM4, hM5, hM6, hM7, hM8⟩, (fun b hb => rfl)⟩
      · refine g_tsIn X dX6_count_17 hw 7 h_2a (by decide) (by decide) rfl (by decide : _ = ((69 : Nat) : Int)) ?_
        refine g_aload_n X 0 rfl dX6_count_69 rfl ?_
        refine g_iload_n X 1 rfl dX6_count_70 rfl ?_
        refine g_callV X (ct_X6_ofStreams l μ q g w) (As := [.int (iI w)]) (rest := []) cl_X6 rfl ca_X6_ofStreams rfl wm_X6_132 wi_X6_ofStreams ws_X6_ofStreams wc_X6_ofStreams w0_X6 ⟨by decide, by decide⟩ (hμ.mem 0 (by decide)) hMo (by decide) ⟨by decide, by decide⟩ rfl dX6_count_71 rfl ⟨rfl, hμ, hMo, hMs, hw, by omega, by omega⟩ (fun r1 L1 M1 hq => ?_)
        obtain ⟨rfl, rfl, rfl⟩ := hq
        refine g_st (st' := [.int (iI (ofG g w))]) rfl ?_
        exact g_iret X hret ⟨Nat.le_of_ble_eq_true rfl, Nat.le_of_ble_eq_true rfl⟩ dX6_count_74 ⟨by rw [anCount, if_neg (by omega), if_neg (by omega), if_pos (by omega)], rfl, ⟨q, _, _, _, rfl, rfl, hMo, hMs, hM2, hM3, hM4, hM5, hM6, hM7, hM8⟩, (fun b hb => rfl)⟩
      · refine g_tsIn X dX6_count_17 hw 8 h_2a (by decide) (by decide) rfl (by decide : _ = ((69 : Nat) : Int)) ?_
        refine g_aload_n X 0 rfl dX6_count_69 rfl ?_
        refine g_iload_n X 1 rfl dX6_count_70 rfl ?_
        refine g_callV X (ct_X6_ofStreams l μ q g w) (As := [.int (iI w)]) (rest := []) cl_X6 rfl ca_X6_ofStreams rfl wm_X6_132 wi_X6_ofStreams ws_X6_ofStreams wc_X6_ofStreams w0_X6 ⟨by decide, by decide⟩ (hμ.mem 0 (by decide)) hMo (by decide) ⟨by decide, by decide⟩ rfl dX6_count_71 rfl ⟨rfl, hμ, hMo, hMs, hw, by omega, by omega⟩ (fun r1 L1 M1 hq => ?_)
        obtain ⟨rfl, rfl, rfl⟩ := hq
        refine g_st (st' := [.int (iI (ofG g w))]) rfl ?_
        exact g_iret X hret ⟨Nat.le_of_ble_eq_true rfl, Nat.le_of_ble_eq_true rfl⟩ dX6_count_74 ⟨by rw [anCount, if_neg (by omega), if_neg (by omega), if_pos (by omega)], rfl, ⟨q, _, _, _, rfl, rfl, hMo, hMs, hM2, hM3, hM4, hM5, hM6, hM7, hM8⟩, (fun b hb => rfl)⟩
      · refine g_tsIn X dX6_count_17 hw 9 h_2a (by decide) (by decide) rfl (by decide : _ = ((69 : Nat) : Int)) ?_
        refine g_aload_n X 0 rfl dX6_count_69 rfl ?_
        refine g_iload_n X 1 rfl dX6_count_70 rfl ?_
        refine g_callV X (ct_X6_ofStreams l μ q g w) (As := [.int (iI w)]) (rest := []) cl_X6 rfl ca_X6_ofStreams rfl wm_X6_132 wi_X6_ofStreams ws_X6_ofStreams wc_X6_ofStreams w0_X6 ⟨by decide, by decide⟩ (hμ.mem 0 (by decide)) hMo (by decide) ⟨by decide, by decide⟩ rfl dX6_count_71 rfl ⟨rfl, hμ, hMo, hMs, hw, by omega, by omega⟩ (fun r1 L1 M1 hq => ?_)
        obtain ⟨rfl, rfl, rfl⟩ := hq
        refine g_st (st' := [.int (iI (ofG g w))]) rfl ?_
        exact g_iret X hret ⟨Nat.le_of_ble_eq_true rfl, Nat.le_of_ble_eq_true rfl⟩ dX6_count_74 ⟨by rw [anCount, if_neg (by omega), if_neg (by omega), if_pos (by omega)], rfl, ⟨q, _, _, _, rfl, rfl, hMo, hMs, hM2, hM3, hM4, hM5, hM6, hM7, hM8⟩, (fun b hb => rfl)⟩
      · refine g_tsIn X dX6_count_17 hw 10 h_2a (by decide) (by decide) rfl (by decide : _ = ((75 : Nat) : Int)) ?_
        refine g_aload_n X 0 rfl dX6_count_75 rfl ?_
        refine g_callV X (ct_X6_busyBanks l μ q g) (As := []) (rest := []) cl_X6 rfl ca_X6_busyBanks rfl wm_X6_135 wi_X6_busyBanks ws_X6_busyBanks wc_X6_busyBanks w0_X6 ⟨by decide, by decide⟩ (hμ.mem 0 (by decide)) hMo (by decide) ⟨by decide, by decide⟩ rfl dX6_count_76 rfl ⟨rfl, hμ, hMo, hMs, hI⟩ (fun r1 L1 M1 hq => ?_)
        obtain ⟨rfl, rfl, rfl⟩ := hq
        refine g_st (st' := [.int (iI (bbG g))]) rfl ?_
        exact g_iret X hret ⟨Nat.le_of_ble_eq_true rfl, Nat.le_of_ble_eq_true rfl⟩ dX6_count_79 ⟨by rw [anCount, if_neg (by omega), if_neg (by omega), if_neg (by omega), if_pos (by omega)], rfl, ⟨q, _, _, _, rfl, rfl, hMo, hMs, hM2, hM3, hM4, hM5, hM6, hM7, hM8⟩, (fun b hb => rfl)⟩
      · refine g_tsIn X dX6_count_17 hw 11 h_2a (by decide) (by decide) rfl (by decide : _ = ((80 : Nat) : Int)) ?_
        refine g_aload_n X 0 rfl dX6_count_80 rfl ?_
        refine g_callV X (ct_X6_prime l μ q g) (As := []) (rest := []) cl_X6 rfl ca_X6_prime rfl wm_X6_48 wi_X6_prime ws_X6_prime wc_X6_prime w0_X6 ⟨by decide, by decide⟩ (hμ.mem 0 (by decide)) hMo (by decide) ⟨by decide, by decide⟩ rfl dX6_count_81 rfl ⟨rfl, hμ, hMo, hMs, by omega, by omega⟩ (fun r1 L1 M1 hq => ?_)
        obtain ⟨rfl, rfl, rfl⟩ := hq
        refine g_st (st' := [.int (iI (tGP (g 0)))]) rfl ?_
        exact g_iret X hret ⟨Nat.le_of_ble_eq_true rfl, Nat.le_of_ble_eq_true rfl⟩ dX6_count_84 ⟨by rw [anCount, if_neg (by omega), if_neg (by omega), if_neg (by omega), if_neg (by omega), if_pos (by omega)], rfl, ⟨q, _, _, _, rfl, rfl, hMo, hMs, hM2, hM3, hM4, hM5, hM6, hM7, hM8⟩, (fun b hb => rfl)⟩
      · refine g_tsIn X dX6_count_17 hw 12 h_2a (by decide) (by decide) rfl (by decide : _ = ((85 : Nat) : Int)) ?_
        refine g_aload_n X 0 rfl dX6_count_85 rfl ?_
        refine g_get X cl_X6 8 (by decide) wf_X6_99 rfl (hμ.mem 0 (by decide)) hMo rfl dX6_count_86 rfl ?_
        exact g_iret X hret ⟨Nat.le_of_ble_eq_true rfl, Nat.le_of_ble_eq_true rfl⟩ dX6_count_89 ⟨by rw [anCount, if_neg (by omega), if_neg (by omega), if_neg (by omega), if_neg (by omega), if_neg (by omega), if_pos (by omega)], rfl, ⟨q, _, _, _, rfl, rfl, hMo, hMs, hM2, hM3, hM4, hM5, hM6, hM7, hM8⟩, (fun b hb => rfl)⟩
      · refine g_tsIn X dX6_count_17 hw 13 h_2a (by decide) (by decide) rfl (by decide : _ = ((90 : Nat) : Int)) ?_
        refine g_aload_n X 0 rfl dX6_count_90 rfl ?_
        refine g_get X cl_X6 9 (by decide) wf_X6_40 rfl (hμ.mem 0 (by decide)) hMo rfl dX6_count_91 rfl ?_
        exact g_iret X hret ⟨Nat.le_of_ble_eq_true rfl, Nat.le_of_ble_eq_true rfl⟩ dX6_count_94 ⟨by rw [anCount, if_neg (by omega), if_neg (by omega), if_neg (by omega), if_neg (by omega), if_neg (by omega), if_neg (by omega), if_pos (by omega)], rfl, ⟨q, _, _, _, rfl, rfl, hMo, hMs, hM2, hM3, hM4, hM5, hM6, hM7, hM8⟩, (fun b hb => rfl)⟩
    · refine g_tsOut X dX6_count_17 hw (by omega) (by decide : _ = ((95 : Nat) : Int)) ?_
      refine g_bipush X (z := -2) (by decide +kernel) dX6_count_95 rfl ?_
      exact g_iret X hret ⟨Nat.le_of_ble_eq_true rfl, Nat.le_of_ble_eq_true rfl⟩ dX6_count_97 ⟨by rw [anCount, if_neg (by omega), if_neg (by omega), if_neg (by omega), if_neg (by omega), if_neg (by omega), if_neg (by omega), if_neg (by omega)], rfl, ⟨q, _, _, _, rfl, rfl, hMo, hMs, hM2, hM3, hM4, hM5, hM6, hM7, hM8⟩, (fun b hb => rfl)⟩
  · refine g_aload_n X 0 rfl dX6_count_9 rfl ?_
    refine g_get X cl_X6 0 (by decide) wf_X6_7 rfl (hμ.mem 0 (by decide)) hMo rfl dX6_count_10 rfl ?_
    refine g_iload_n X 1 rfl dX6_count_13 rfl ?_
    refine g_iald X (hμ.mem 1 (by decide)) hMs ⟨by omega, by omega⟩ (by decide) dX6_count_14 rfl ?_
    exact g_iret X hret ⟨Nat.le_of_ble_eq_true rfl, Nat.le_of_ble_eq_true rfl⟩ dX6_count_15 ⟨by rw [anCount, if_pos h_1], rfl, ⟨q, _, _, _, rfl, rfl, hMo, hMs, hM2, hM3, hM4, hM5, hM6, hM7, hM8⟩, (fun b hb => rfl)⟩
set_option maxRecDepth 100000 in
set_option maxHeartbeats 4000000 in
theorem ct_X6_wipe (l : Launch) (μ : Nat → Nat) (q g : Int → Int) (sp tr be sa iz rd pa : Int → Int) : Ct l yX6_wipe cX6_wipe 2 (some .int) 0 0 0 (fun ca av L M => av = [.ref (μ 0)] ∧ MuOk μ L ∧ M (μ 0) = oMd μ q ∧ M (μ 1) = cI ca 110 g ∧ M (μ 2) = cI ca 110 sp ∧ M (μ 3) = cI ca 110 tr ∧ M (μ 4) = cI ca 660 be ∧ M (μ 5) = cI ca 220 sa ∧ M (μ 6) = cZ ca 2 iz ∧ M (μ 7) = cI ca 33 rd ∧ M (μ 8) = cC ca 60 pa ∧ Inv g ∧ (0 ≤ q 0 ∧ q 0 ≤ 60) ∧ (0 ≤ q 1 ∧ q 1 ≤ 6)) (fun ca av L M r L1 M1 => r = some (.int (iI (anWipe (g, be, sa, iz, pa, q 0, q 1)))) ∧ L = L1 ∧ Md ca M1 μ (opWipe (g, be, sa, iz, pa, q 0, q 1)) ∧ ∀ b, (∀ i, i < 9 → b ≠ μ i) → M1 b = M b) := by
  refine Ct_of (own := RX6) (by decide) rfl (by rintro _ _ _ _ ⟨rfl, _⟩; exact Nat.le_of_ble_eq_true rfl) ?_
  rintro p e s m args below meth c D ca A av L M ⟨rfl, hμ, hMo, hMs, hM2, hM3, hM4, hM5, hM6, hM7, hM8, hI, hq0, hq1⟩ X hret hname
  refine g_lv (lv' := [(0, .ref (μ 0))]) [0] rfl ?_
  refine g_aload_n X 0 rfl dX6_wipe_0 rfl ?_
  refine g_get X cl_X6 8 (by decide) wf_X6_99 rfl (hμ.mem 0 (by decide)) hMo rfl dX6_wipe_1 rfl ?_
  refine g_istore_n X (lv' := [(1, .int (iI (q 0))), (0, .ref (μ 0))]) (by decide) rfl dX6_wipe_4 rfl ?_
  refine g_aload_n X 1 rfl dX6_wipe_5 rfl ?_
  refine g_iconst X (z := 0) dX6_wipe_6 rfl ?_
  refine g_put X cl_X6 8 (by decide) wf_X6_99 rfl (hμ.mem 0 (by decide)) hMo rfl rfl rfl (Nat.le_of_ble_eq_true rfl) (fs' := [.ref (μ 1), .ref (μ 2), .ref (μ 3), .ref (μ 4), .ref (μ 5), .ref (μ 6), .ref (μ 7), .ref (μ 8), .int (iI 0), .int (iI (q 1)), .int (iI (q 2)), .int (iI (q 3))]) rfl dX6_wipe_7 rfl (fun M_1 hM_2 fr_3 => ?_)
  have hM_4 : M_1 (μ 1) = cI ca 110 g := (fr_3 (μ 1) (hμ.ne (i := 1) (j := 0) (by decide) (by decide) (by decide))).trans hMs
  have hM_5 : M_1 (μ 2) = cI ca 110 sp := (fr_3 (μ 2) (hμ.ne (i := 2) (j := 0) (by decide) (by decide) (by decide))).trans hM2
  have hM_6 : M_1 (μ 3) = cI ca 110 tr := (fr_3 (μ 3) (hμ.ne (i := 3) (j := 0) (by decide) (by decide) (by decide))).trans hM3
  have hM_7 : M_1 (μ 4) = cI ca 660 be := (fr_3 (μ 4) (hμ.ne (i := 4) (j := 0) (by decide) (by decide) (by decide))).trans hM4
  have hM_8 : M_1 (μ 5) = cI ca 220 sa := (fr_3 (μ 5) (hμ.ne (i := 5) (j := 0) (by decide) (by decide) (by decide))).trans hM5
  have hM_9 : M_1 (μ 6) = cZ ca 2 iz := (fr_3 (μ 6) (hμ.ne (i := 6) (j := 0) (by decide) (by decide) (by decide))).trans hM6
  have hM_10 : M_1 (μ 7) = cI ca 33 rd := (fr_3 (μ 7) (hμ.ne (i := 7) (j := 0) (by decide) (by decide) (by decide))).trans hM7
  have hM_11 : M_1 (μ 8) = cC ca 60 pa := (fr_3 (μ 8) (hμ.ne (i := 8) (j := 0) (by decide) (by decide) (by decide))).trans hM8
  refine g_iload_n X 0 rfl dX6_wipe_10 rfl ?_
  exact g_iret X hret ⟨Nat.le_of_ble_eq_true rfl, Nat.le_of_ble_eq_true rfl⟩ dX6_wipe_11 ⟨rfl, rfl, by rw [opWipe]; exact ⟨(up q 0 0), _, _, _, rfl, rfl, hM_2, hM_4, hM_5, hM_6, hM_7, hM_8, hM_9, hM_10, hM_11⟩, (fun b hb => (fr_3 b (hb 0 (by decide))))⟩
set_option maxRecDepth 100000 in
set_option maxHeartbeats 4000000 in
theorem ct_X6_undo (l : Launch) (μ : Nat → Nat) (q g : Int → Int) (sp tr be sa iz rd pa : Int → Int) : Ct l yX6_undo cX6_undo 2 (some .int) 0 0 0 (fun ca av L M => av = [.ref (μ 0)] ∧ MuOk μ L ∧ M (μ 0) = oMd μ q ∧ M (μ 1) = cI ca 110 g ∧ M (μ 2) = cI ca 110 sp ∧ M (μ 3) = cI ca 110 tr ∧ M (μ 4) = cI ca 660 be ∧ M (μ 5) = cI ca 220 sa ∧ M (μ 6) = cZ ca 2 iz ∧ M (μ 7) = cI ca 33 rd ∧ M (μ 8) = cC ca 60 pa ∧ Inv g ∧ (0 ≤ q 0 ∧ q 0 ≤ 60) ∧ (0 ≤ q 1 ∧ q 1 ≤ 6)) (fun ca av L M r L1 M1 => r = some (.int (iI (anUndo (g, be, sa, iz, pa, q 0, q 1)))) ∧ L = L1 ∧ Md ca M1 μ (opUndo (g, be, sa, iz, pa, q 0, q 1)) ∧ ∀ b, (∀ i, i < 9 → b ≠ μ i) → M1 b = M b) := by
  refine Ct_of (own := RX6) (by decide) rfl (by rintro _ _ _ _ ⟨rfl, _⟩; exact Nat.le_of_ble_eq_true rfl) ?_
  rintro p e s m args below meth c D ca A av L M ⟨rfl, hμ, hMo, hMs, hM2, hM3, hM4, hM5, hM6, hM7, hM8, hI, hq0, hq1⟩ X hret hname
  refine g_lv (lv' := [(0, .ref (μ 0))]) [0] rfl ?_
  generalize hQ : MQ below _ args s _ _ A = Q
  have lp : ∀ (n : Nat) (t y : Int) (M1 : Mem) (f : Int → Int) (hq : ¬ q 1 = 0) (ht : t = q 1 - 1) (hy0 : 0 ≤ y) (hy1 : y ≤ 110) (hf : f = cpy y (fun k => be (110 * (q 1 - 1) + k)) g) (n0 : M1 (μ 0) = .inr (6, [.ref (μ 1), .ref (μ 2), .ref (μ 3), .ref (μ 4), .ref (μ 5), .ref (μ 6), .ref (μ 7), .ref (μ 8), .int (iI (q 0)), .int (iI t), .int (iI (q 2)), .int (iI (q 3))])) (n1 : M1 (μ 1) = cI ca 110 f) (n2 : M1 (μ 2) = cI ca 110 sp) (n3 : M1 (μ 3) = cI ca 110 tr) (n4 : M1 (μ 4) = cI ca 660 be) (n5 : M1 (μ 5) = cI ca 220 sa) (n6 : M1 (μ 6) = cZ ca 2 iz) (n7 : M1 (μ 7) = cI ca 33 rd) (n8 : M1 (μ 8) = cC ca 60 pa) (hfr : ∀ b, b ≠ μ 0 → b ≠ μ 1 → M1 b = M b) (hm : 110 - y < (n : Int)), G p l e (Rm 0 0 0) s m args below meth c D A 2 Q 0 0 L M1 22 [(0, .ref (μ 0)), (1, .int (iI y))] [] := by
    intro n
    induction n with
    | zero =>
      intro t y M1 f hq ht hy0 hy1 hf n0 n1 n2 n3 n4 n5 n6 n7 n8 hfr hm
      exfalso; omega
    | succ n ih =>
      intro t y M1 f hq ht hy0 hy1 hf n0 n1 n2 n3 n4 n5 n6 n7 n8 hfr hm
      refine g_iload_n X 1 rfl dX6_undo_22 rfl ?_
      refine g_bipush X (z := 110) (by decide +kernel) dX6_undo_23 rfl ?_
      refine g_icmp_ge X ⟨by omega, by omega⟩ ⟨by decide, by decide⟩ (tgt := 54) dX6_undo_25 (by decide) rfl (fun h_1 => ?_) (fun h_1 => ?_)
      · refine g_aload_n X 0 rfl dX6_undo_54 rfl ?_
        refine g_get X cl_X6 9 (by decide) wf_X6_40 rfl (hμ.mem 0 (by decide)) n0 rfl dX6_undo_55 rfl ?_
        subst hQ
        rw [ht] at n0
        exact g_iret X hret ⟨Nat.le_of_ble_eq_true rfl, Nat.le_of_ble_eq_true rfl⟩ dX6_undo_58 ⟨by rw [anUndo, if_neg (by first | omega | (dsimp only; omega)), ht], rfl, by rw [opUndo, if_neg (by first | omega | (dsimp only; omega))]; exact ⟨(up q 1 (q 1 - 1)), _, _, _, rfl, rfl, n0, (n1).trans (cI_ext (fun k h0 h1 => by rw [hf, cpy_in (by omega) (by omega)]; rfl)), n2, n3, n4, n5, n6, n7, n8⟩, (fun b hb => (hfr b (hb 0 (by decide)) (hb 1 (by decide))))⟩
      · refine g_aload_n X 0 rfl dX6_undo_28 rfl ?_
        refine g_get X cl_X6 0 (by decide) wf_X6_7 rfl (hμ.mem 0 (by decide)) n0 rfl dX6_undo_29 rfl ?_
        refine g_iload_n X 1 rfl dX6_undo_32 rfl ?_
        refine g_aload_n X 0 rfl dX6_undo_33 rfl ?_
        refine g_get X cl_X6 3 (by decide) wf_X6_19 rfl (hμ.mem 0 (by decide)) n0 rfl dX6_undo_34 rfl ?_
        refine g_bipush X (z := 110) (by decide +kernel) dX6_undo_37 rfl ?_
        refine g_aload_n X 0 rfl dX6_undo_39 rfl ?_
        refine g_get X cl_X6 9 (by decide) wf_X6_40 rfl (hμ.mem 0 (by decide)) n0 rfl dX6_undo_40 rfl ?_
        refine g_imul X dX6_undo_43 rfl ?_
        refine g_iload_n X 1 rfl dX6_undo_44 rfl ?_
        refine g_iadd X dX6_undo_45 rfl ?_
        refine g_iald X (hμ.mem 4 (by decide)) n4 ⟨by omega, by omega⟩ (by decide) dX6_undo_46 rfl ?_
        refine g_iast X (hμ.mem 1 (by decide)) n1 ⟨by omega, by omega⟩ (by decide) dX6_undo_47 rfl (fun M_2 hM_3 fr_4 => ?_)
        obtain ⟨g_5, hg_6⟩ : ∃ x : Int → Int, x = up f y (be ((110 * t) + y)) := ⟨_, rfl⟩
        rw [← hg_6] at hM_3
        have hM_7 : M_2 (μ 0) = .inr (6, [.ref (μ 1), .ref (μ 2), .ref (μ 3), .ref (μ 4), .ref (μ 5), .ref (μ 6), .ref (μ 7), .ref (μ 8), .int (iI (q 0)), .int (iI t), .int (iI (q 2)), .int (iI (q 3))]) := (fr_4 (μ 0) (hμ.ne (i := 0) (j := 1) (by decide) (by decide) (by decide))).trans n0
        have hM_8 : M_2 (μ 2) = cI ca 110 sp := (fr_4 (μ 2) (hμ.ne (i := 2) (j := 1) (by decide) (by decide) (by decide))).trans n2
        have hM_9 : M_2 (μ 3) = cI ca 110 tr := (fr_4 (μ 3) (hμ.ne (i := 3) (j := 1) (by decide) (by decide) (by decide))).trans n3
        have hM_10 : M_2 (μ 4) = cI ca 660 be := (fr_4 (μ 4) (hμ.ne (i := 4) (j := 1) (by decide) (by decide) (by decide))).trans n4
        have hM_11 : M_2 (μ 5) = cI ca 220 sa := (fr_4 (μ 5) (hμ.ne (i := 5) (j := 1) (by decide) (by decide) (by decide))).trans n5
        have hM_12 : M_2 (μ 6) = cZ ca 2 iz := (fr_4 (μ 6) (hμ.ne (i := 6) (j := 1) (by decide) (by decide) (by decide))).trans n6
        have hM_13 : M_2 (μ 7) = cI ca 33 rd := (fr_4 (μ 7) (hμ.ne (i := 7) (j := 1) (by decide) (by decide) (by decide))).trans n7
        have hM_14 : M_2 (μ 8) = cC ca 60 pa := (fr_4 (μ 8) (hμ.ne (i := 8) (j := 1) (by decide) (by decide) (by decide))).trans n8
        refine g_iinc X (lv' := [(1, .int (iI (y + 1))), (0, .ref (μ 0))]) 1 rfl (by decide) rfl dX6_undo_48 rfl ?_
        refine g_goto X (n := 22) dX6_undo_51 (by decide) ?_
        refine g_lv (lv' := [(0, .ref (μ 0)), (1, .int (iI (y + 1)))]) [1, 0] rfl ?_
        exact ih _ _ _ _ hq ht (by omega) (by omega) (by rw [hg_6, hf, show be (110 * t + y) = (fun k => be (110 * (q 1 - 1) + k)) y from by rw [ht], cpy_up _ _ hy0]) hM_7 hM_3 hM_8 hM_9 hM_10 hM_11 hM_12 hM_13 hM_14 (fun b hb0 hb1 => ((fr_4 b hb1).trans (hfr b hb0 hb1))) (by omega)
  refine g_aload_n X 0 rfl dX6_undo_0 rfl ?_
  refine g_get X cl_X6 9 (by decide) wf_X6_40 rfl (hμ.mem 0 (by decide)) hMo rfl dX6_undo_1 rfl ?_
  refine g_if_ne X ⟨by omega, by omega⟩ (tgt := 10) dX6_undo_4 (by decide) rfl (fun h_15 => ?_) (fun h_15 => ?_)
  · refine g_aload_n X 0 rfl dX6_undo_10 rfl ?_
    refine g_dup X rfl dX6_undo_11 rfl ?_
    refine g_get X cl_X6 9 (by decide) wf_X6_40 rfl (hμ.mem 0 (by decide)) hMo rfl dX6_undo_12 rfl ?_
    refine g_iconst X (z := 1) dX6_undo_15 rfl ?_
    refine g_isub X dX6_undo_16 rfl ?_
    refine g_put X cl_X6 9 (by decide) wf_X6_40 rfl (hμ.mem 0 (by decide)) hMo rfl rfl rfl (Nat.le_of_ble_eq_true rfl) (fs' := [.ref (μ 1), .ref (μ 2), .ref (μ 3), .ref (μ 4), .ref (μ 5), .ref (μ 6), .ref (μ 7), .ref (μ 8), .int (iI (q 0)), .int (iI (q 1 - 1)), .int (iI (q 2)), .int (iI (q 3))]) rfl dX6_undo_17 rfl (fun M_16 hM_17 fr_18 => ?_)
    have hM_19 : M_16 (μ 1) = cI ca 110 g := (fr_18 (μ 1) (hμ.ne (i := 1) (j := 0) (by decide) (by decide) (by decide))).trans hMs
    have hM_20 : M_16 (μ 2) = cI ca 110 sp := (fr_18 (μ 2) (hμ.ne (i := 2) (j := 0) (by decide) (by decide) (by decide))).trans hM2
    have hM_21 : M_16 (μ 3) = cI ca 110 tr := (fr_18 (μ 3) (hμ.ne (i := 3) (j := 0) (by decide) (by decide) (by decide))).trans hM3
    have hM_22 : M_16 (μ 4) = cI ca 660 be := (fr_18 (μ 4) (hμ.ne (i := 4) (j := 0) (by decide) (by decide) (by decide))).trans hM4
    have hM_23 : M_16 (μ 5) = cI ca 220 sa := (fr_18 (μ 5) (hμ.ne (i := 5) (j := 0) (by decide) (by decide) (by decide))).trans hM5
    have hM_24 : M_16 (μ 6) = cZ ca 2 iz := (fr_18 (μ 6) (hμ.ne (i := 6) (j := 0) (by decide) (by decide) (by decide))).trans hM6
    have hM_25 : M_16 (μ 7) = cI ca 33 rd := (fr_18 (μ 7) (hμ.ne (i := 7) (j := 0) (by decide) (by decide) (by decide))).trans hM7
    have hM_26 : M_16 (μ 8) = cC ca 60 pa := (fr_18 (μ 8) (hμ.ne (i := 8) (j := 0) (by decide) (by decide) (by decide))).trans hM8
    refine g_iconst X (z := 0) dX6_undo_20 rfl ?_
    refine g_istore_n X (lv' := [(1, .int (iI 0)), (0, .ref (μ 0))]) (by decide) rfl dX6_undo_21 rfl ?_
    refine g_lv (lv' := [(0, .ref (μ 0)), (1, .int (iI 0))]) [1, 0] rfl ?_
    exact lp 120 _ _ _ _ (by omega) rfl (by decide) (by decide) (by rw [cpy_0]) hM_17 hM_19 hM_20 hM_21 hM_22 hM_23 hM_24 hM_25 hM_26 (fun b hb0 hb1 => (fr_18 b hb0)) (by decide)
  · refine g_bipush X (z := -5) (by decide +kernel) dX6_undo_7 rfl ?_
    subst hQ
    exact g_iret X hret ⟨Nat.le_of_ble_eq_true rfl, Nat.le_of_ble_eq_true rfl⟩ dX6_undo_9 ⟨by rw [anUndo, if_pos (by first | omega | (dsimp only; omega))], rfl, by rw [opUndo, if_pos (by first | omega | (dsimp only; omega))]; exact ⟨q, _, _, _, rfl, rfl, hMo, hMs, hM2, hM3, hM4, hM5, hM6, hM7, hM8⟩, (fun b hb => rfl)⟩
set_option maxRecDepth 100000 in
set_option maxHeartbeats 4000000 in
theorem ct_X6_save (l : Launch) (μ : Nat → Nat) (q g : Int → Int) (sp tr be sa iz rd pa : Int → Int) (v : Int) : Ct l yX6_save cX6_save 3 (some .int) 1 0 0 (fun ca av L M => av = [.ref (μ 0), .int (iI v)] ∧ MuOk μ L ∧ M (μ 0) = oMd μ q ∧ M (μ 1) = cI ca 110 g ∧ M (μ 2) = cI ca 110 sp ∧ M (μ 3) = cI ca 110 tr ∧ M (μ 4) = cI ca 660 be ∧ M (μ 5) = cI ca 220 sa ∧ M (μ 6) = cZ ca 2 iz ∧ M (μ 7) = cI ca 33 rd ∧ M (μ 8) = cC ca 60 pa ∧ Inv g ∧ (0 ≤ q 0 ∧ q 0 ≤ 60) ∧ (0 ≤ q 1 ∧ q 1 ≤ 6) ∧ R32 v) (fun ca av L M r L1 M1 => r = some (.int (iI (anSave (g, be, sa, iz, pa, q 0, q 1) v))) ∧ L = L1 ∧ Md ca M1 μ (opSave (g, be, sa, iz, pa, q 0, q 1) v) ∧ ∀ b, (∀ i, i < 9 → b ≠ μ i) → M1 b = M b) := by
  refine Ct_of (own := RX6) (by decide) rfl (by rintro _ _ _ _ ⟨rfl, _⟩; exact Nat.le_of_ble_eq_true rfl) ?_
  rintro p e s m args below meth c D ca A av L M ⟨rfl, hμ, hMo, hMs, hM2, hM3, hM4, hM5, hM6, hM7, hM8, hI, hq0, hq1, hv⟩ X hret hname
  refine g_lv (lv' := [(0, .ref (μ 0)), (1, .int (iI v))]) [0, 1] rfl ?_
  generalize hQ : MQ below _ args s _ _ A = Q
  have lp : ∀ (n : Nat) (y : Int) (M1 : Mem) (f : Int → Int) (hv2 : 0 ≤ v ∧ v ≤ 1) (hy0 : 0 ≤ y) (hy1 : y ≤ 110) (hf : f = pbl y (110 * v) sa g) (n0 : M1 (μ 0) = .inr (6, [.ref (μ 1), .ref (μ 2), .ref (μ 3), .ref (μ 4), .ref (μ 5), .ref (μ 6), .ref (μ 7), .ref (μ 8), .int (iI (q 0)), .int (iI (q 1)), .int (iI (q 2)), .int (iI (q 3))])) (n1 : M1 (μ 1) = cI ca 110 g) (n2 : M1 (μ 2) = cI ca 110 sp) (n3 : M1 (μ 3) = cI ca 110 tr) (n4 : M1 (μ 4) = cI ca 660 be) (n5 : M1 (μ 5) = cI ca 220 f) (n6 : M1 (μ 6) = cZ ca 2 iz) (n7 : M1 (μ 7) = cI ca 33 rd) (n8 : M1 (μ 8) = cC ca 60 pa) (hfr : ∀ b, b ≠ μ 5 → b ≠ μ 6 → M1 b = M b) (hm : 110 - y < (n : Int)), G p l e (Rm 1 0 0) s m args below meth c D A 3 Q 0 0 L M1 14 [(0, .ref (μ 0)), (1, .int (iI v)), (2, .int (iI y))] [] := by
    intro n
    induction n with
    | zero =>
      intro y M1 f hv2 hy0 hy1 hf n0 n1 n2 n3 n4 n5 n6 n7 n8 hfr hm
      exfalso; omega
    | succ n ih =>
      intro y M1 f hv2 hy0 hy1 hf n0 n1 n2 n3 n4 n5 n6 n7 n8 hfr hm
      refine g_iload_n X 2 rfl dX6_save_14 rfl ?_
      refine g_bipush X (z := 110) (by decide +kernel) dX6_save_15 rfl ?_
      refine g_icmp_ge X ⟨by omega, by omega⟩ ⟨by decide, by decide⟩ (tgt := 43) dX6_save_17 (by decide) rfl (fun h_1 => ?_) (fun h_1 => ?_)
      · refine g_aload_n X 0 rfl dX6_save_43 rfl ?_
        refine g_get X cl_X6 5 (by decide) wf_X6_25 rfl (hμ.mem 0 (by decide)) n0 rfl dX6_save_44 rfl ?_
        refine g_iload_n X 1 rfl dX6_save_47 rfl ?_
        refine g_iconst X (z := 1) dX6_save_48 rfl ?_
        refine g_zast X (hμ.mem 6 (by decide)) n6 ⟨by omega, by omega⟩ (by decide) nar_z1 dX6_save_49 rfl (fun M_2 hM_3 fr_4 => ?_)
        obtain ⟨g_5, hg_6⟩ : ∃ x : Int → Int, x = up iz v 1 := ⟨_, rfl⟩
        rw [← hg_6] at hM_3
        have hM_7 : M_2 (μ 0) = .inr (6, [.ref (μ 1), .ref (μ 2), .ref (μ 3), .ref (μ 4), .ref (μ 5), .ref (μ 6), .ref (μ 7), .ref (μ 8), .int (iI (q 0)), .int (iI (q 1)), .int (iI (q 2)), .int (iI (q 3))]) := (fr_4 (μ 0) (hμ.ne (i := 0) (j := 6) (by decide) (by decide) (by decide))).trans n0
        have hM_8 : M_2 (μ 1) = cI ca 110 g := (fr_4 (μ 1) (hμ.ne (i := 1) (j := 6) (by decide) (by decide) (by decide))).trans n1
        have hM_9 : M_2 (μ 2) = cI ca 110 sp := (fr_4 (μ 2) (hμ.ne (i := 2) (j := 6) (by decide) (by decide) (by decide))).trans n2
        have hM_10 : M_2 (μ 3) = cI ca 110 tr := (fr_4 (μ 3) (hμ.ne (i := 3) (j := 6) (by decide) (by decide) (by decide))).trans n3
        have hM_11 : M_2 (μ 4) = cI ca 660 be := (fr_4 (μ 4) (hμ.ne (i := 4) (j := 6) (by decide) (by decide) (by decide))).trans n4
        have hM_12 : M_2 (μ 5) = cI ca 220 f := (fr_4 (μ 5) (hμ.ne (i := 5) (j := 6) (by decide) (by decide) (by decide))).trans n5
        have hM_13 : M_2 (μ 7) = cI ca 33 rd := (fr_4 (μ 7) (hμ.ne (i := 7) (j := 6) (by decide) (by decide) (by decide))).trans n7
        have hM_14 : M_2 (μ 8) = cC ca 60 pa := (fr_4 (μ 8) (hμ.ne (i := 8) (j := 6) (by decide) (by decide) (by decide))).trans n8
        refine g_aload_n X 0 rfl dX6_save_50 rfl ?_
        refine g_get X cl_X6 0 (by decide) wf_X6_7 rfl (hμ.mem 0 (by decide)) hM_7 rfl dX6_save_51 rfl ?_
        refine g_iconst X (z := 4) dX6_save_54 rfl ?_
        refine g_iald X (hμ.mem 1 (by decide)) hM_8 ⟨by decide, by decide⟩ (by decide) dX6_save_55 rfl ?_
        subst hQ
        have hyy : y = 110 := by omega
        subst hyy
        subst hf
        subst hg_6
        exact g_iret X hret ⟨Nat.le_of_ble_eq_true rfl, Nat.le_of_ble_eq_true rfl⟩ dX6_save_56 ⟨by rw [anSave, if_pos hv2], rfl, by rw [opSave, if_pos hv2]; exact ⟨q, _, _, _, rfl, rfl, hM_7, hM_8, hM_9, hM_10, hM_11, hM_12, hM_3, hM_13, hM_14⟩, (fun b hb => ((fr_4 b (hb 6 (by decide))).trans (hfr b (hb 5 (by decide)) (hb 6 (by decide)))))⟩
      · refine g_aload_n X 0 rfl dX6_save_20 rfl ?_
        refine g_get X cl_X6 4 (by decide) wf_X6_22 rfl (hμ.mem 0 (by decide)) n0 rfl dX6_save_21 rfl ?_
        refine g_bipush X (z := 110) (by decide +kernel) dX6_save_24 rfl ?_
        refine g_iload_n X 1 rfl dX6_save_26 rfl ?_
        refine g_imul X dX6_save_27 rfl ?_
        refine g_iload_n X 2 rfl dX6_save_28 rfl ?_
        refine g_iadd X dX6_save_29 rfl ?_
        refine g_aload_n X 0 rfl dX6_save_30 rfl ?_
        refine g_get X cl_X6 0 (by decide) wf_X6_7 rfl (hμ.mem 0 (by decide)) n0 rfl dX6_save_31 rfl ?_
        refine g_iload_n X 2 rfl dX6_save_34 rfl ?_
        refine g_iald X (hμ.mem 1 (by decide)) n1 ⟨by omega, by omega⟩ (by decide) dX6_save_35 rfl ?_
        refine g_iast X (hμ.mem 5 (by decide)) n5 ⟨by omega, by omega⟩ (by decide) dX6_save_36 rfl (fun M_15 hM_16 fr_17 => ?_)
        obtain ⟨g_18, hg_19⟩ : ∃ x : Int → Int, x = up f ((110 * v) + y) (g y) := ⟨_, rfl⟩
        rw [← hg_19] at hM_16
        have hM_20 : M_15 (μ 0) = .inr (6, [.ref (μ 1), .ref (μ 2), .ref (μ 3), .ref (μ 4), .ref (μ 5), .ref (μ 6), .ref (μ 7), .ref (μ 8), .int (iI (q 0)), .int (iI (q 1)), .int (iI (q 2)), .int (iI (q 3))]) := (fr_17 (μ 0) (hμ.ne (i := 0) (j := 5) (by decide) (by decide) (by decide))).trans n0
        have hM_21 : M_15 (μ 1) = cI ca 110 g := (fr_17 (μ 1) (hμ.ne (i := 1) (j := 5) (by decide) (by decide) (by decide))).trans n1
        have hM_22 : M_15 (μ 2) = cI ca 110 sp := (fr_17 (μ 2) (hμ.ne (i := 2) (j := 5) (by decide) (by decide) (by decide))).trans n2
        have hM_23 : M_15 (μ 3) = cI ca 110 tr := (fr_17 (μ 3) (hμ.ne (i := 3) (j := 5) (by decide) (by decide) (by decide))).trans n3
        have hM_24 : M_15 (μ 4) = cI ca 660 be := (fr_17 (μ 4) (hμ.ne (i := 4) (j := 5) (by decide) (by decide) (by decide))).trans n4
        have hM_25 : M_15 (μ 6) = cZ ca 2 iz := (fr_17 (μ 6) (hμ.ne (i := 6) (j := 5) (by decide) (by decide) (by decide))).trans n6
        have hM_26 : M_15 (μ 7) = cI ca 33 rd := (fr_17 (μ 7) (hμ.ne (i := 7) (j := 5) (by decide) (by decide) (by decide))).trans n7
        have hM_27 : M_15 (μ 8) = cC ca 60 pa := (fr_17 (μ 8) (hμ.ne (i := 8) (j := 5) (by decide) (by decide) (by decide))).trans n8
        refine g_iinc X (lv' := [(2, .int (iI (y + 1))), (0, .ref (μ 0)), (1, .int (iI v))]) 2 rfl (by decide) rfl dX6_save_37 rfl ?_
        refine g_goto X (n := 14) dX6_save_40 (by decide) ?_
        refine g_lv (lv' := [(0, .ref (μ 0)), (1, .int (iI v)), (2, .int (iI (y + 1)))]) [1, 2, 0] rfl ?_
        exact ih _ _ _ hv2 (by omega) (by omega) (by rw [hg_19, hf, pbl_up _ _ hy0]) hM_20 hM_21 hM_22 hM_23 hM_24 hM_16 hM_25 hM_26 hM_27 (fun b hb5 hb6 => ((fr_17 b hb5).trans (hfr b hb5 hb6))) (by omega)
  refine g_iload_n X 1 rfl dX6_save_0 rfl ?_
  refine g_iconst X (z := 0) dX6_save_1 rfl ?_
  refine g_iconst X (z := 1) dX6_save_2 rfl ?_
  refine g_callS X (ct_X6_in l v 0 1) (As := [.int (iI v), .int (iI 0), .int (iI 1)]) (rest := []) rfl ca_X6_in rfl wm_X6_36 wt_X6_in wc_X6_in w0_X6 ⟨by decide, by decide⟩ (by decide) ⟨by decide, by decide⟩ rfl dX6_save_3 rfl ⟨rfl, hv, ⟨by decide, by decide⟩, ⟨by decide, by decide⟩⟩ (fun r1 L1 M1 hq => ?_)
  obtain ⟨rfl, rfl, rfl⟩ := hq
  refine g_st (st' := [.int (iI (if 0 ≤ v ∧ v ≤ 1 then 1 else 0))]) rfl ?_
  refine g_if_neb X (tgt := 12) dX6_save_6 (by decide) rfl (fun h_28 => ?_) (fun h_28 => ?_)
  · refine g_iconst X (z := 0) dX6_save_12 rfl ?_
    refine g_istore_n X (lv' := [(2, .int (iI 0)), (0, .ref (μ 0)), (1, .int (iI v))]) (by decide) rfl dX6_save_13 rfl ?_
    refine g_lv (lv' := [(0, .ref (μ 0)), (1, .int (iI v)), (2, .int (iI 0))]) [1, 2, 0] rfl ?_
    exact lp 120 _ _ _ (by omega) (by decide) (by decide) (by rw [pbl_0]) hMo hMs hM2 hM3 hM4 hM5 hM6 hM7 hM8 (fun b hb5 hb6 => rfl) (by decide)
  · refine g_bipush X (z := -2) (by decide +kernel) dX6_save_9 rfl ?_
    subst hQ
    exact g_iret X hret ⟨Nat.le_of_ble_eq_true rfl, Nat.le_of_ble_eq_true rfl⟩ dX6_save_11 ⟨by rw [anSave, if_neg h_28], rfl, by rw [opSave, if_neg h_28]; exact ⟨q, _, _, _, rfl, rfl, hMo, hMs, hM2, hM3, hM4, hM5, hM6, hM7, hM8⟩, (fun b hb => rfl)⟩
set_option maxRecDepth 100000 in
set_option maxHeartbeats 4000000 in
theorem ct_X6_restore (l : Launch) (μ : Nat → Nat) (q g : Int → Int) (sp tr be sa iz rd pa : Int → Int) (v : Int) : Ct l yX6_restore cX6_restore 3 (some .int) 1 0 0 (fun ca av L M => av = [.ref (μ 0), .int (iI v)] ∧ MuOk μ L ∧ M (μ 0) = oMd μ q ∧ M (μ 1) = cI ca 110 g ∧ M (μ 2) = cI ca 110 sp ∧ M (μ 3) = cI ca 110 tr ∧ M (μ 4) = cI ca 660 be ∧ M (μ 5) = cI ca 220 sa ∧ M (μ 6) = cZ ca 2 iz ∧ M (μ 7) = cI ca 33 rd ∧ M (μ 8) = cC ca 60 pa ∧ Inv g ∧ (0 ≤ q 0 ∧ q 0 ≤ 60) ∧ (0 ≤ q 1 ∧ q 1 ≤ 6) ∧ R32 v ∧ (∀ k, R32 (iz k))) (fun ca av L M r L1 M1 => r = some (.int (iI (anRestore (g, be, sa, iz, pa, q 0, q 1) v))) ∧ L = L1 ∧ Md ca M1 μ (opRestore (g, be, sa, iz, pa, q 0, q 1) v) ∧ ∀ b, (∀ i, i < 9 → b ≠ μ i) → M1 b = M b) := by
  refine Ct_of (own := RX6) (by decide) rfl (by rintro _ _ _ _ ⟨rfl, _⟩; exact Nat.le_of_ble_eq_true rfl) ?_
  rintro p e s m args below meth c D ca A av L M ⟨rfl, hμ, hMo, hMs, hM2, hM3, hM4, hM5, hM6, hM7, hM8, hI, hq0, hq1, hv, hiz⟩ X hret hname
  refine g_lv (lv' := [(0, .ref (μ 0)), (1, .int (iI v))]) [0, 1] rfl ?_
  generalize hQ : MQ below _ args s _ _ A = Q
  have lp : ∀ (n : Nat) (y : Int) (M1 : Mem) (f : Int → Int) (hv2 : 0 ≤ v ∧ v ≤ 1) (hz2 : iz v ≠ 0) (hy0 : 0 ≤ y) (hy1 : y ≤ 110) (hf : f = cpy y (fun k => sa (110 * v + k)) g) (n0 : M1 (μ 0) = .inr (6, [.ref (μ 1), .ref (μ 2), .ref (μ 3), .ref (μ 4), .ref (μ 5), .ref (μ 6), .ref (μ 7), .ref (μ 8), .int (iI (q 0)), .int (iI (q 1)), .int (iI (q 2)), .int (iI (q 3))])) (n1 : M1 (μ 1) = cI ca 110 f) (n2 : M1 (μ 2) = cI ca 110 g) (n3 : M1 (μ 3) = cI ca 110 tr) (n4 : M1 (μ 4) = cI ca 660 be) (n5 : M1 (μ 5) = cI ca 220 sa) (n6 : M1 (μ 6) = cZ ca 2 iz) (n7 : M1 (μ 7) = cI ca 33 rd) (n8 : M1 (μ 8) = cC ca 60 pa) (hfr : ∀ b, b ≠ μ 1 → b ≠ μ 2 → M1 b = M b) (hm : 110 - y < (n : Int)), G p l e (Rm 1 0 0) s m args below meth c D A 3 Q 0 0 L M1 30 [(0, .ref (μ 0)), (1, .int (iI v)), (2, .int (iI y))] [] := by
    intro n
    induction n with
    | zero =>
      intro y M1 f hv2 hz2 hy0 hy1 hf n0 n1 n2 n3 n4 n5 n6 n7 n8 hfr hm
      exfalso; omega
    | succ n ih =>
      intro y M1 f hv2 hz2 hy0 hy1 hf n0 n1 n2 n3 n4 n5 n6 n7 n8 hfr hm
      refine g_iload_n X 2 rfl dX6_restore_30 rfl ?_
      refine g_bipush X (z := 110) (by decide +kernel) dX6_restore_31 rfl ?_
      refine g_icmp_ge X ⟨by omega, by omega⟩ ⟨by decide, by decide⟩ (tgt := 59) dX6_restore_33 (by decide) rfl (fun h_1 => ?_) (fun h_1 => ?_)
      · refine g_aload_n X 0 rfl dX6_restore_59 rfl ?_
        refine g_aload_n X 0 rfl dX6_restore_60 rfl ?_
        refine g_get X cl_X6 0 (by decide) wf_X6_7 rfl (hμ.mem 0 (by decide)) n0 rfl dX6_restore_61 rfl ?_
        refine g_iconst X (z := 4) dX6_restore_64 rfl ?_
        refine g_iald X (hμ.mem 1 (by decide)) n1 ⟨by decide, by decide⟩ (by decide) dX6_restore_65 rfl ?_
        refine g_callV X (ct_X6_recorded l μ q f g be (f 4)) (As := [.int (iI (f 4))]) (rest := []) cl_X6 rfl ca_X6_recorded rfl wm_X6_85 wi_X6_recorded ws_X6_recorded wc_X6_recorded w0_X6 ⟨by decide, by decide⟩ (hμ.mem 0 (by decide)) n0 (by decide) ⟨by decide, by decide⟩ rfl dX6_restore_66 rfl ⟨rfl, hμ, n0, n1, n2, n4, hq1.1, hq1.2⟩ (fun r1 L1 M_2 hq => ?_)
        obtain ⟨rfl, rfl, hM_3, hM_4, fr_5⟩ := hq
        have hM_6 : M_2 (μ 1) = cI ca 110 f := (fr_5 _ (hμ.ne (i := 1) (j := 0) (by decide) (by decide) (by decide)) (hμ.ne (i := 1) (j := 4) (by decide) (by decide) (by decide))).trans n1
        have hM_7 : M_2 (μ 2) = cI ca 110 g := (fr_5 _ (hμ.ne (i := 2) (j := 0) (by decide) (by decide) (by decide)) (hμ.ne (i := 2) (j := 4) (by decide) (by decide) (by decide))).trans n2
        have hM_8 : M_2 (μ 3) = cI ca 110 tr := (fr_5 _ (hμ.ne (i := 3) (j := 0) (by decide) (by decide) (by decide)) (hμ.ne (i := 3) (j := 4) (by decide) (by decide) (by decide))).trans n3
        have hM_9 : M_2 (μ 5) = cI ca 220 sa := (fr_5 _ (hμ.ne (i := 5) (j := 0) (by decide) (by decide) (by decide)) (hμ.ne (i := 5) (j := 4) (by decide) (by decide) (by decide))).trans n5
        have hM_10 : M_2 (μ 6) = cZ ca 2 iz := (fr_5 _ (hμ.ne (i := 6) (j := 0) (by decide) (by decide) (by decide)) (hμ.ne (i := 6) (j := 4) (by decide) (by decide) (by decide))).trans n6
        have hM_11 : M_2 (μ 7) = cI ca 33 rd := (fr_5 _ (hμ.ne (i := 7) (j := 0) (by decide) (by decide) (by decide)) (hμ.ne (i := 7) (j := 4) (by decide) (by decide) (by decide))).trans n7
        have hM_12 : M_2 (μ 8) = cC ca 60 pa := (fr_5 _ (hμ.ne (i := 8) (j := 0) (by decide) (by decide) (by decide)) (hμ.ne (i := 8) (j := 4) (by decide) (by decide) (by decide))).trans n8
        refine g_st (st' := [.int (iI (f 4))]) rfl ?_
        subst hQ
        exact g_iret X hret ⟨Nat.le_of_ble_eq_true rfl, Nat.le_of_ble_eq_true rfl⟩ dX6_restore_69 ⟨by rw [anRestore, if_pos hv2, if_neg hz2, hf, cpy_in (by decide) (by omega)], rfl, by rw [opRestore, if_pos ⟨hv2, hz2⟩]; exact ⟨(up q 1 (recN (q 1))), _, _, _, rfl, rfl, hM_3, (hM_6).trans (cI_ext (fun k h0 h1 => by rw [hf, cpy_in (by omega) (by omega)]; rfl)), hM_7, hM_8, hM_4, hM_9, hM_10, hM_11, hM_12⟩, (fun b hb => ((fr_5 b (hb 0 (by decide)) (hb 4 (by decide))).trans (hfr b (hb 1 (by decide)) (hb 2 (by decide)))))⟩
      · refine g_aload_n X 0 rfl dX6_restore_36 rfl ?_
        refine g_get X cl_X6 0 (by decide) wf_X6_7 rfl (hμ.mem 0 (by decide)) n0 rfl dX6_restore_37 rfl ?_
        refine g_iload_n X 2 rfl dX6_restore_40 rfl ?_
        refine g_aload_n X 0 rfl dX6_restore_41 rfl ?_
        refine g_get X cl_X6 4 (by decide) wf_X6_22 rfl (hμ.mem 0 (by decide)) n0 rfl dX6_restore_42 rfl ?_
        refine g_bipush X (z := 110) (by decide +kernel) dX6_restore_45 rfl ?_
        refine g_iload_n X 1 rfl dX6_restore_47 rfl ?_
        refine g_imul X dX6_restore_48 rfl ?_
        refine g_iload_n X 2 rfl dX6_restore_49 rfl ?_
        refine g_iadd X dX6_restore_50 rfl ?_
        refine g_iald X (hμ.mem 5 (by decide)) n5 ⟨by omega, by omega⟩ (by decide) dX6_restore_51 rfl ?_
        refine g_iast X (hμ.mem 1 (by decide)) n1 ⟨by omega, by omega⟩ (by decide) dX6_restore_52 rfl (fun M_13 hM_14 fr_15 => ?_)
        obtain ⟨g_16, hg_17⟩ : ∃ x : Int → Int, x = up f y (sa ((110 * v) + y)) := ⟨_, rfl⟩
        rw [← hg_17] at hM_14
        have hM_18 : M_13 (μ 0) = .inr (6, [.ref (μ 1), .ref (μ 2), .ref (μ 3), .ref (μ 4), .ref (μ 5), .ref (μ 6), .ref (μ 7), .ref (μ 8), .int (iI (q 0)), .int (iI (q 1)), .int (iI (q 2)), .int (iI (q 3))]) := (fr_15 (μ 0) (hμ.ne (i := 0) (j := 1) (by decide) (by decide) (by decide))).trans n0
        have hM_19 : M_13 (μ 2) = cI ca 110 g := (fr_15 (μ 2) (hμ.ne (i := 2) (j := 1) (by decide) (by decide) (by decide))).trans n2
        have hM_20 : M_13 (μ 3) = cI ca 110 tr := (fr_15 (μ 3) (hμ.ne (i := 3) (j := 1) (by decide) (by decide) (by decide))).trans n3
        have hM_21 : M_13 (μ 4) = cI ca 660 be := (fr_15 (μ 4) (hμ.ne (i := 4) (j := 1) (by decide) (by decide) (by decide))).trans n4
        have hM_22 : M_13 (μ 5) = cI ca 220 sa := (fr_15 (μ 5) (hμ.ne (i := 5) (j := 1) (by decide) (by decide) (by decide))).trans n5
        have hM_23 : M_13 (μ 6) = cZ ca 2 iz := (fr_15 (μ 6) (hμ.ne (i := 6) (j := 1) (by decide) (by decide) (by decide))).trans n6
        have hM_24 : M_13 (μ 7) = cI ca 33 rd := (fr_15 (μ 7) (hμ.ne (i := 7) (j := 1) (by decide) (by decide) (by decide))).trans n7
        have hM_25 : M_13 (μ 8) = cC ca 60 pa := (fr_15 (μ 8) (hμ.ne (i := 8) (j := 1) (by decide) (by decide) (by decide))).trans n8
        refine g_iinc X (lv' := [(2, .int (iI (y + 1))), (0, .ref (μ 0)), (1, .int (iI v))]) 2 rfl (by decide) rfl dX6_restore_53 rfl ?_
        refine g_goto X (n := 30) dX6_restore_56 (by decide) ?_
        refine g_lv (lv' := [(0, .ref (μ 0)), (1, .int (iI v)), (2, .int (iI (y + 1)))]) [1, 2, 0] rfl ?_
        exact ih _ _ _ hv2 hz2 (by omega) (by omega) (by rw [hg_17, hf, show sa (110 * v + y) = (fun k => sa (110 * v + k)) y from rfl, cpy_up _ _ hy0]) hM_18 hM_14 hM_19 hM_20 hM_21 hM_22 hM_23 hM_24 hM_25 (fun b hb1 hb2 => ((fr_15 b hb1).trans (hfr b hb1 hb2))) (by omega)
  refine g_iload_n X 1 rfl dX6_restore_0 rfl ?_
  refine g_iconst X (z := 0) dX6_restore_1 rfl ?_
  refine g_iconst X (z := 1) dX6_restore_2 rfl ?_
  refine g_callS X (ct_X6_in l v 0 1) (As := [.int (iI v), .int (iI 0), .int (iI 1)]) (rest := []) rfl ca_X6_in rfl wm_X6_36 wt_X6_in wc_X6_in w0_X6 ⟨by decide, by decide⟩ (by decide) ⟨by decide, by decide⟩ rfl dX6_restore_3 rfl ⟨rfl, hv, ⟨by decide, by decide⟩, ⟨by decide, by decide⟩⟩ (fun r1 L1 M1 hq => ?_)
  obtain ⟨rfl, rfl, rfl⟩ := hq
  refine g_st (st' := [.int (iI (if 0 ≤ v ∧ v ≤ 1 then 1 else 0))]) rfl ?_
  refine g_if_neb X (tgt := 12) dX6_restore_6 (by decide) rfl (fun h_26 => ?_) (fun h_26 => ?_)
  · refine g_aload_n X 0 rfl dX6_restore_12 rfl ?_
    refine g_get X cl_X6 5 (by decide) wf_X6_25 rfl (hμ.mem 0 (by decide)) hMo rfl dX6_restore_13 rfl ?_
    refine g_iload_n X 1 rfl dX6_restore_16 rfl ?_
    refine g_zald X (hμ.mem 6 (by decide)) hM6 ⟨by omega, by omega⟩ (by decide) dX6_restore_17 rfl ?_
    refine g_if_ne X (hiz v) (tgt := 24) dX6_restore_18 (by decide) rfl (fun h_27 => ?_) (fun h_27 => ?_)
    · refine g_aload_n X 0 rfl dX6_restore_24 rfl ?_
      refine g_callV X (ct_X6_hold l μ q g sp) (As := []) (rest := []) cl_X6 rfl ca_X6_hold rfl wm_X6_79 wi_X6_hold ws_X6_hold wc_X6_hold w0_X6 ⟨by decide, by decide⟩ (hμ.mem 0 (by decide)) hMo (by decide) ⟨by decide, by decide⟩ rfl dX6_restore_25 rfl ⟨rfl, hμ, hMo, hMs, hM2⟩ (fun r1 L1 M_28 hq => ?_)
      obtain ⟨rfl, rfl, hM_29, fr_30⟩ := hq
      have hM_31 : M_28 (μ 0) = .inr (6, [.ref (μ 1), .ref (μ 2), .ref (μ 3), .ref (μ 4), .ref (μ 5), .ref (μ 6), .ref (μ 7), .ref (μ 8), .int (iI (q 0)), .int (iI (q 1)), .int (iI (q 2)), .int (iI (q 3))]) := (fr_30 (μ 0) (hμ.ne (i := 0) (j := 2) (by decide) (by decide) (by decide))).trans hMo
      have hM_32 : M_28 (μ 1) = cI ca 110 g := (fr_30 (μ 1) (hμ.ne (i := 1) (j := 2) (by decide) (by decide) (by decide))).trans hMs
      have hM_33 : M_28 (μ 3) = cI ca 110 tr := (fr_30 (μ 3) (hμ.ne (i := 3) (j := 2) (by decide) (by decide) (by decide))).trans hM3
      have hM_34 : M_28 (μ 4) = cI ca 660 be := (fr_30 (μ 4) (hμ.ne (i := 4) (j := 2) (by decide) (by decide) (by decide))).trans hM4
      have hM_35 : M_28 (μ 5) = cI ca 220 sa := (fr_30 (μ 5) (hμ.ne (i := 5) (j := 2) (by decide) (by decide) (by decide))).trans hM5
      have hM_36 : M_28 (μ 6) = cZ ca 2 iz := (fr_30 (μ 6) (hμ.ne (i := 6) (j := 2) (by decide) (by decide) (by decide))).trans hM6
      have hM_37 : M_28 (μ 7) = cI ca 33 rd := (fr_30 (μ 7) (hμ.ne (i := 7) (j := 2) (by decide) (by decide) (by decide))).trans hM7
      have hM_38 : M_28 (μ 8) = cC ca 60 pa := (fr_30 (μ 8) (hμ.ne (i := 8) (j := 2) (by decide) (by decide) (by decide))).trans hM8
      refine g_st (st' := []) rfl ?_
      refine g_iconst X (z := 0) dX6_restore_28 rfl ?_
      refine g_istore_n X (lv' := [(2, .int (iI 0)), (0, .ref (μ 0)), (1, .int (iI v))]) (by decide) rfl dX6_restore_29 rfl ?_
      refine g_lv (lv' := [(0, .ref (μ 0)), (1, .int (iI v)), (2, .int (iI 0))]) [1, 2, 0] rfl ?_
      exact lp 120 _ _ _ (by omega) (by omega) (by decide) (by decide) (by rw [cpy_0]) hM_31 hM_32 hM_29 hM_33 hM_34 hM_35 hM_36 hM_37 hM_38 (fun b hb1 hb2 => (fr_30 b hb2)) (by decide)
    · refine g_bipush X (z := -5) (by decide +kernel) dX6_restore_21 rfl ?_
      subst hQ
      exact g_iret X hret ⟨Nat.le_of_ble_eq_true rfl, Nat.le_of_ble_eq_true rfl⟩ dX6_restore_23 ⟨by rw [anRestore, if_pos h_26, if_pos (by first | omega | (dsimp only; omega))], rfl, by rw [opRestore, if_neg (fun q => q.2 (by first | omega | (dsimp only; omega)))]; exact ⟨q, _, _, _, rfl, rfl, hMo, hMs, hM2, hM3, hM4, hM5, hM6, hM7, hM8⟩, (fun b hb => rfl)⟩
  · refine g_bipush X (z := -2) (by decide +kernel) dX6_restore_9 rfl ?_
    subst hQ
    exact g_iret X hret ⟨Nat.le_of_ble_eq_true rfl, Nat.le_of_ble_eq_true rfl⟩ dX6_restore_11 ⟨by rw [anRestore, if_neg h_26], rfl, by rw [opRestore, if_neg (fun q => h_26 q.1)]; exact ⟨q, _, _, _, rfl, rfl, hMo, hMs, hM2, hM3, hM4, hM5, hM6, hM7, hM8⟩, (fun b hb => rfl)⟩
