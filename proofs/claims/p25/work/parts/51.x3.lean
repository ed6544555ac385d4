/-! the class: banks and counts -/
theorem bz_bb {c g : Int → Int} (hR : Rel c g) (hI : Inv g) (hZ : InvZ g) : bzS c 16 = bbG g := by
  obtain ⟨⟨s0, s1⟩, -, -, -, ⟨s4, -⟩, -⟩ := hI.1
  have a : ∀ k : Nat, k ≤ 16 → bzS c k = bbS g k := by
    intro k
    induction k with
    | zero => intro _; rfl
    | succ k ih =>
      intro hk
      simp only [bzS, bbS]
      rw [ih (by omega), (hR.2.1 k (by omega) (by omega)).1, hR.1.2.2.2.2.1]
      congr 1
      unfold bsyG
      by_cases e : g (6 + 4 * (k : Int)) > g 4
      · rw [if_pos e, if_pos (by omega)]
      · rw [if_neg e, if_neg (by omega)]
  have b : ∀ j : Nat, (g 0).toNat + j ≤ 16 → bbS g ((g 0).toNat + j) = bbS g (g 0).toNat := by
    intro j
    induction j with
    | zero => intro _; rfl
    | succ j ih =>
      intro hj
      show bbS g ((g 0).toNat + j) + (if bsyG g (((g 0).toNat + j : Nat) : Int) > 0 then 1 else 0) = _
      rw [ih (by omega)]
      have z := hZ (((g 0).toNat + j : Nat) : Int) (by omega) (by omega)
      unfold bsyG
      rw [z, if_neg (by omega), Int.add_zero]
  rw [a 16 (by decide)]
  have := b (16 - (g 0).toNat) (by omega)
  rw [show (g 0).toNat + (16 - (g 0).toNat) = 16 by omega] at this
  exact this
theorem mx_bsy {c g : Int → Int} {b : Int} (h : c (6 + 4 * b) = g (6 + 4 * b)) (h4 : c 4 = g 4) : (if 0 < c (6 + 4 * b) - c 4 then c (6 + 4 * b) - c 4 else 0) = bsyG g b := by
  have e : c (6 + 4 * b) - c 4 = g (6 + 4 * b) - g 4 := by omega
  unfold bsyG
  rw [e]
  try rfl
theorem tot_done {c g : Int → Int} (h : Rel c g) (h0 : 0 ≤ g 5) : toS c 2 (c 5).toNat - toS c 3 (c 5).toNat = ofG g 7 := by
  have e := h.1.2.2.2.2.2
  rw [toS_done h _ (by omega), e]; rfl
theorem tot_st {c g : Int → Int} (h : Rel c g) (h0 : 0 ≤ g 5) : toS c 5 (c 5).toNat = ofG g 8 := by
  have e := h.1.2.2.2.2.2
  rw [toS_st h _ (by omega), e]; rfl
theorem tot_cl {c g : Int → Int} (h : Rel c g) (h0 : 0 ≤ g 5) : toS c 6 (c 5).toNat = ofG g 9 := by
  have e := h.1.2.2.2.2.2
  rw [toS_cl h _ (by omega), e]; rfl
set_option maxRecDepth 100000 in
set_option maxHeartbeats 4000000 in
theorem ct_X5_bank (l : Launch) (Sg : Int → Int → Nat) (g be sa iz pa : Int → Int) (len st : Int) (b w : Int) : Ct l yX5_bank cX5_bank 4 (some .int) 5 0 0 (fun ca av L M => av = [.ref (Sg 10 0), .int (iI b), .int (iI w)] ∧ SBm ca L M Sg (g, be, sa, iz, pa, len, st) ∧ WfA (g, be, sa, iz, pa, len, st) ∧ R32 b ∧ R32 w) (fun ca av L M r L1 M1 => r = some (.int (iI (anBank (g, be, sa, iz, pa, len, st) b w))) ∧ L = L1 ∧ SBo ca L M M1 Sg ((g, be, sa, iz, pa, len, st))) := by
  refine Ct_of (own := RX5) (by decide) rfl (by rintro _ _ _ _ ⟨rfl, _⟩; exact Nat.le_of_ble_eq_true rfl) ?_
  rintro p e s m args below meth cod D ca A av L M ⟨rfl, hSB, hW, hb, hw⟩ X hret hname
  refine g_lv (lv' := [(0, .ref (Sg 10 0)), (1, .int (iI b)), (2, .int (iI w))]) [0, 1, 2] rfl ?_
  obtain ⟨c, ct, nf, nu, hB, hR⟩ : ∃ (c ct : Int → Int) (nf : Int) (nu : Int → Int), SBc ca L M Sg be sa iz pa nu len nf st c ct ∧ Rel c g := SBm.opn hSB
  have hA := hB.adr
  have hO := outA.refl Sg M
  obtain ⟨hWg, hln, hst, hpa, hWh, hWs⟩ : WfG g ∧ (0 ≤ len ∧ len ≤ 60) ∧ (0 ≤ st ∧ st ≤ 6) ∧ InvP pa ∧ (∀ j, 0 ≤ j → j < st → WfG (blk (110 * j) be)) ∧ (∀ k, 0 ≤ k → k < 2 → (iz k = 0 ∨ iz k = 1) ∧ (iz k ≠ 0 → WfG (blk (110 * k) sa))) := id hW
  obtain ⟨hI, hZ, h4⟩ := id hWg
  obtain ⟨⟨i00, i01⟩, ⟨i10, i11⟩, ⟨i20, i21⟩, ⟨i30, i31⟩, ⟨i40, i41⟩, i50, i51⟩ := id hI.1
  obtain ⟨⟨e0, e1, e2, e3, e4, e5⟩, hRB, hRR⟩ := id hR
  refine g_iload_n X 1 rfl dX5_bank_0 rfl ?_
  refine g_iconst X (z := 0) dX5_bank_1 rfl ?_
  refine g_aload_n X 0 rfl dX5_bank_2 rfl ?_
  refine g_get X cl_X5 0 (by decide) wf_X5_10 rfl (hA.mem (s := 10) (k := 0) (by unfold inD; omega)) hB.obj rfl dX5_bank_3 rfl ?_
  refine g_getN X cl_X3 0 (by decide) wf_X5_56 rfl (hB.now.mem (i := 0) (by decide) (by decide)) hB.now.obj rfl dX5_bank_6 rfl ?_
  refine g_iconst X (z := 0) dX5_bank_9 rfl ?_
  refine g_iald X (hB.now.mem (i := 1) (by decide) (by decide)) hB.now.set ⟨by decide, by decide⟩ (by decide) dX5_bank_10 rfl ?_
  refine g_iconst X (z := 1) dX5_bank_11 rfl ?_
  refine g_isub X dX5_bank_12 rfl ?_
  refine g_callS X (ct_X5_isIn l b 0 (c 0 - 1)) (As := [.int (iI b), .int (iI 0), .int (iI (c 0 - 1))]) (rest := []) rfl ca_X5_isIn rfl wm_X5_41 wt_X5_isIn wc_X5_isIn w0_X5 ⟨by decide, by decide⟩ (by decide) ⟨by decide, by decide⟩ rfl dX5_bank_13 rfl ⟨rfl, hb, ⟨by decide, by decide⟩, ⟨by omega, by omega⟩⟩ (fun r1 L1 M1 hq => ?_)
  obtain ⟨rfl, rfl, rfl⟩ := hq
  refine g_st (st' := [.int (iI (if 0 ≤ b ∧ b ≤ (c 0 - 1) then 1 else 0))]) rfl ?_
  refine g_if_neb X (tgt := 21) dX5_bank_16 (by decide) rfl (fun h_1 => ?_) (fun h_1 => ?_)
  · have hbk := hRB b (by omega) (by omega)
    have hbi := hI.2.1 b (by omega) (by omega)
    refine g_aload_n X 0 rfl dX5_bank_21 rfl ?_
    refine g_get X cl_X5 0 (by decide) wf_X5_10 rfl (hA.mem (s := 10) (k := 0) (by unfold inD; omega)) hB.obj rfl dX5_bank_22 rfl ?_
    refine g_getN X cl_X3 2 (by decide) wf_X5_125 rfl (hB.now.mem (i := 0) (by decide) (by decide)) hB.now.obj rfl dX5_bank_25 rfl ?_
    refine g_iload_n X 1 rfl dX5_bank_28 rfl ?_
    refine g_aald X (t := 3) rfl (hB.now.mem (i := 3) (by decide) (by decide)) hB.now.bks ⟨by omega, by omega⟩ (by decide) (if_pos (by omega)) dX5_bank_29 rfl ?_
    have hw_2 : M (Sg 0 (4 + b)) = .inr (0, [.int (iI (c (6 + 4 * b))), .int (iI (c (6 + 4 * b + 1))), .int (iI (c (6 + 4 * b + 2))), .int (iI (c (6 + 4 * b + 3)))]) := (hB.now.bank (by omega) (by omega))
    refine g_astore_n X (lv' := [(3, .ref (Sg 0 (4 + b))), (0, .ref (Sg 10 0)), (1, .int (iI b)), (2, .int (iI w))]) (by decide) rfl dX5_bank_30 rfl ?_
    refine g_iload_n X 3 rfl dX5_bank_31 rfl ?_
    by_cases h_3 : 0 ≤ w ∧ w ≤ 3
    · have h_3a : w = 0 ∨ w = 1 ∨ w = 2 ∨ w = 3 := by omega
      rcases h_3a with h_3a | h_3a | h_3a | h_3a
      · refine g_tsIn X dX5_bank_32 hw 0 h_3a (by decide) (by decide) rfl (by decide : _ = ((64 : Nat) : Int)) ?_
        refine g_iconst X (z := 0) dX5_bank_64 rfl ?_
        refine g_aload_n X 0 rfl dX5_bank_65 rfl ?_
        refine g_getN X cl_X0 0 (by decide) wf_X5_129 rfl (hB.now.mem (by omega) (by omega)) hw_2 rfl dX5_bank_66 rfl ?_
        refine g_aload_n X 1 rfl dX5_bank_69 rfl ?_
        refine g_get X cl_X5 0 (by decide) wf_X5_10 rfl (hA.mem (s := 10) (k := 0) (by unfold inD; omega)) hB.obj rfl dX5_bank_70 rfl ?_
        refine g_getN X cl_X3 4 (by decide) wf_X5_104 rfl (hB.now.mem (i := 0) (by decide) (by decide)) hB.now.obj rfl dX5_bank_73 rfl ?_
        refine g_isub X dX5_bank_76 rfl ?_
        refine g_max X ⟨by decide, by decide⟩ ⟨by omega, by omega⟩ wm_X5_134 ⟨by decide, by decide⟩ ⟨by decide, by decide⟩ (Nat.le_of_ble_eq_true rfl) dX5_bank_77 rfl ?_
        have hn : 0 ≤ b ∧ b ≤ g 0 - 1 := by omega
        have ha : anBank (g, be, sa, iz, pa, len, st) b w = bsyG g b := by rw [anBank, if_pos hn, if_pos (by omega)]
        exact g_iret X hret ⟨Nat.le_of_ble_eq_true rfl, Nat.le_of_ble_eq_true rfl⟩ dX5_bank_80 ⟨by rw [ha, mx_bsy hbk.1 e4], rfl, hB.fin hR hO⟩
      · refine g_tsIn X dX5_bank_32 hw 1 h_3a (by decide) (by decide) rfl (by decide : _ = ((81 : Nat) : Int)) ?_
        refine g_aload_n X 0 rfl dX5_bank_81 rfl ?_
        refine g_getN X cl_X0 2 (by decide) wf_X5_139 rfl (hB.now.mem (by omega) (by omega)) hw_2 rfl dX5_bank_82 rfl ?_
        have hn : 0 ≤ b ∧ b ≤ g 0 - 1 := by omega
        exact g_iret X hret ⟨Nat.le_of_ble_eq_true rfl, Nat.le_of_ble_eq_true rfl⟩ dX5_bank_85 ⟨by rw [anBank, if_pos hn, if_neg (by omega), if_pos (by omega)]; exact congrArg _ (congrArg _ (congrArg iI hbk.2.1)), rfl, hB.fin hR hO⟩
      · refine g_tsIn X dX5_bank_32 hw 2 h_3a (by decide) (by decide) rfl (by decide : _ = ((86 : Nat) : Int)) ?_
        refine g_aload_n X 0 rfl dX5_bank_86 rfl ?_
        refine g_getN X cl_X0 3 (by decide) wf_X5_142 rfl (hB.now.mem (by omega) (by omega)) hw_2 rfl dX5_bank_87 rfl ?_
        have hn : 0 ≤ b ∧ b ≤ g 0 - 1 := by omega
        exact g_iret X hret ⟨Nat.le_of_ble_eq_true rfl, Nat.le_of_ble_eq_true rfl⟩ dX5_bank_90 ⟨by rw [anBank, if_pos hn, if_neg (by omega), if_neg (by omega), if_pos (by omega)]; exact congrArg _ (congrArg _ (congrArg iI hbk.2.2.1)), rfl, hB.fin hR hO⟩
      · refine g_tsIn X dX5_bank_32 hw 3 h_3a (by decide) (by decide) rfl (by decide : _ = ((91 : Nat) : Int)) ?_
        refine g_aload_n X 1 rfl dX5_bank_91 rfl ?_
        refine g_get X cl_X5 0 (by decide) wf_X5_10 rfl (hA.mem (s := 10) (k := 0) (by unfold inD; omega)) hB.obj rfl dX5_bank_92 rfl ?_
        refine g_iload_n X 2 rfl dX5_bank_95 rfl ?_
        refine g_callVN X (ct_X3_wordsLeftIn l (Sg 0) c g b) (host := "StrideBanks") (As := [.int (iI b)]) (rest := []) cl_X3 rfl ca_X3_wordsLeftIn rfl wm_X5_145 wi_X3_wordsLeftIn ws_X3_wordsLeftIn wc_X3_wordsLeftIn w0_X3 ⟨by decide, by decide⟩ (hB.now.mem (i := 0) (by decide) (by decide)) hB.now.obj (by decide) ⟨by decide, by decide⟩ rfl dX5_bank_96 rfl ⟨rfl, hB.now, hR, hI, hb⟩ (fun r1 L1 M1 hq => ?_)
        obtain ⟨rfl, rfl, rfl⟩ := hq
        refine g_st (st' := [.int (iI (wiG g b))]) rfl ?_
        have hn : 0 ≤ b ∧ b ≤ g 0 - 1 := by omega
        exact g_iret X hret ⟨Nat.le_of_ble_eq_true rfl, Nat.le_of_ble_eq_true rfl⟩ dX5_bank_99 ⟨by rw [anBank, if_pos hn, if_neg (by omega), if_neg (by omega), if_neg (by omega), if_pos (by omega)], rfl, hB.fin hR hO⟩
    · refine g_tsOut X dX5_bank_32 hw (by omega) (by decide : _ = ((100 : Nat) : Int)) ?_
      refine g_bipush X (z := -2) (by decide +kernel) dX5_bank_100 rfl ?_
      have hn : 0 ≤ b ∧ b ≤ g 0 - 1 := by omega
      exact g_iret X hret ⟨Nat.le_of_ble_eq_true rfl, Nat.le_of_ble_eq_true rfl⟩ dX5_bank_102 ⟨by rw [anBank, if_pos hn, if_neg (by omega), if_neg (by omega), if_neg (by omega), if_neg (by omega)], rfl, hB.fin hR hO⟩
  · refine g_iconst X (z := -1) dX5_bank_19 rfl ?_
    have hn : ¬ (0 ≤ b ∧ b ≤ g 0 - 1) := by omega
    exact g_iret X hret ⟨Nat.le_of_ble_eq_true rfl, Nat.le_of_ble_eq_true rfl⟩ dX5_bank_20 ⟨by rw [anBank, if_neg hn], rfl, hB.fin hR hO⟩
set_option maxRecDepth 100000 in
set_option maxHeartbeats 4000000 in
theorem ct_X5_count (l : Launch) (Sg : Int → Int → Nat) (g be sa iz pa : Int → Int) (len st : Int) (w : Int) : Ct l yX5_count cX5_count 2 (some .int) 5 0 0 (fun ca av L M => av = [.ref (Sg 10 0), .int (iI w)] ∧ SBm ca L M Sg (g, be, sa, iz, pa, len, st) ∧ WfA (g, be, sa, iz, pa, len, st) ∧ R32 w) (fun ca av L M r L1 M1 => r = some (.int (iI (anCount (g, be, sa, iz, pa, len, st) w))) ∧ L = L1 ∧ SBo ca L M M1 Sg ((g, be, sa, iz, pa, len, st))) := by
  refine Ct_of (own := RX5) (by decide) rfl (by rintro _ _ _ _ ⟨rfl, _⟩; exact Nat.le_of_ble_eq_true rfl) ?_
  rintro p e s m args below meth cod D ca A av L M ⟨rfl, hSB, hW, hw⟩ X hret hname
  refine g_lv (lv' := [(0, .ref (Sg 10 0)), (1, .int (iI w))]) [0, 1] rfl ?_
  obtain ⟨c, ct, nf, nu, hB, hR⟩ : ∃ (c ct : Int → Int) (nf : Int) (nu : Int → Int), SBc ca L M Sg be sa iz pa nu len nf st c ct ∧ Rel c g := SBm.opn hSB
  have hA := hB.adr
  have hO := outA.refl Sg M
  obtain ⟨hWg, hln, hst, hpa, hWh, hWs⟩ : WfG g ∧ (0 ≤ len ∧ len ≤ 60) ∧ (0 ≤ st ∧ st ≤ 6) ∧ InvP pa ∧ (∀ j, 0 ≤ j → j < st → WfG (blk (110 * j) be)) ∧ (∀ k, 0 ≤ k → k < 2 → (iz k = 0 ∨ iz k = 1) ∧ (iz k ≠ 0 → WfG (blk (110 * k) sa))) := id hW
  obtain ⟨hI, hZ, h4⟩ := id hWg
  obtain ⟨⟨i00, i01⟩, ⟨i10, i11⟩, ⟨i20, i21⟩, ⟨i30, i31⟩, ⟨i40, i41⟩, i50, i51⟩ := id hI.1
  obtain ⟨⟨e0, e1, e2, e3, e4, e5⟩, hRB, hRR⟩ := id hR
  refine g_iload_n X 1 rfl dX5_count_0 rfl ?_
  by_cases h_1 : 0 ≤ w ∧ w ≤ 13
  · have h_1a : w = 0 ∨ w = 1 ∨ w = 2 ∨ w = 3 ∨ w = 4 ∨ w = 5 ∨ w = 6 ∨ w = 7 ∨ w = 8 ∨ w = 9 ∨ w = 10 ∨ w = 11 ∨ w = 12 ∨ w = 13 := by omega
    rcases h_1a with h_1a | h_1a | h_1a | h_1a | h_1a | h_1a | h_1a | h_1a | h_1a | h_1a | h_1a | h_1a | h_1a | h_1a
    · refine g_tsIn X dX5_count_1 hw 0 h_1a (by decide) (by decide) rfl (by decide : _ = ((72 : Nat) : Int)) ?_
      refine g_aload_n X 0 rfl dX5_count_72 rfl ?_
      refine g_get X cl_X5 0 (by decide) wf_X5_10 rfl (hA.mem (s := 10) (k := 0) (by unfold inD; omega)) hB.obj rfl dX5_count_73 rfl ?_
      refine g_getN X cl_X3 0 (by decide) wf_X5_56 rfl (hB.now.mem (i := 0) (by decide) (by decide)) hB.now.obj rfl dX5_count_76 rfl ?_
      refine g_iload_n X 1 rfl dX5_count_79 rfl ?_
      refine g_iald X (hB.now.mem (i := 1) (by decide) (by decide)) hB.now.set ⟨by omega, by omega⟩ (by decide) dX5_count_80 rfl ?_
      exact g_iret X hret ⟨Nat.le_of_ble_eq_true rfl, Nat.le_of_ble_eq_true rfl⟩ dX5_count_81 ⟨by rw [anCount, if_pos (by omega)]; exact congrArg _ (congrArg _ (congrArg iI (hR.1.at (by omega) (by omega)))), rfl, hB.fin hR hO⟩
    · refine g_tsIn X dX5_count_1 hw 1 h_1a (by decide) (by decide) rfl (by decide : _ = ((72 : Nat) : Int)) ?_
      refine g_aload_n X 0 rfl dX5_count_72 rfl ?_
      refine g_get X cl_X5 0 (by decide) wf_X5_10 rfl (hA.mem (s := 10) (k := 0) (by unfold inD; omega)) hB.obj rfl dX5_count_73 rfl ?_
      refine g_getN X cl_X3 0 (by decide) wf_X5_56 rfl (hB.now.mem (i := 0) (by decide) (by decide)) hB.now.obj rfl dX5_count_76 rfl ?_
      refine g_iload_n X 1 rfl dX5_count_79 rfl ?_
      refine g_iald X (hB.now.mem (i := 1) (by decide) (by decide)) hB.now.set ⟨by omega, by omega⟩ (by decide) dX5_count_80 rfl ?_
      exact g_iret X hret ⟨Nat.le_of_ble_eq_true rfl, Nat.le_of_ble_eq_true rfl⟩ dX5_count_81 ⟨by rw [anCount, if_pos (by omega)]; exact congrArg _ (congrArg _ (congrArg iI (hR.1.at (by omega) (by omega)))), rfl, hB.fin hR hO⟩
    · refine g_tsIn X dX5_count_1 hw 2 h_1a (by decide) (by decide) rfl (by decide : _ = ((72 : Nat) : Int)) ?_
      refine g_aload_n X 0 rfl dX5_count_72 rfl ?_
      refine g_get X cl_X5 0 (by decide) wf_X5_10 rfl (hA.mem (s := 10) (k := 0) (by unfold inD; omega)) hB.obj rfl dX5_count_73 rfl ?_
      refine g_getN X cl_X3 0 (by decide) wf_X5_56 rfl (hB.now.mem (i := 0) (by decide) (by decide)) hB.now.obj rfl dX5_count_76 rfl ?_
      refine g_iload_n X 1 rfl dX5_count_79 rfl ?_
      refine g_iald X (hB.now.mem (i := 1) (by decide) (by decide)) hB.now.set ⟨by omega, by omega⟩ (by decide) dX5_count_80 rfl ?_
      exact g_iret X hret ⟨Nat.le_of_ble_eq_true rfl, Nat.le_of_ble_eq_true rfl⟩ dX5_count_81 ⟨by rw [anCount, if_pos (by omega)]; exact congrArg _ (congrArg _ (congrArg iI (hR.1.at (by omega) (by omega)))), rfl, hB.fin hR hO⟩
    · refine g_tsIn X dX5_count_1 hw 3 h_1a (by decide) (by decide) rfl (by decide : _ = ((72 : Nat) : Int)) ?_
      refine g_aload_n X 0 rfl dX5_count_72 rfl ?_
      refine g_get X cl_X5 0 (by decide) wf_X5_10 rfl (hA.mem (s := 10) (k := 0) (by unfold inD; omega)) hB.obj rfl dX5_count_73 rfl ?_
      refine g_getN X cl_X3 0 (by decide) wf_X5_56 rfl (hB.now.mem (i := 0) (by decide) (by decide)) hB.now.obj rfl dX5_count_76 rfl ?_
      refine g_iload_n X 1 rfl dX5_count_79 rfl ?_
      refine g_iald X (hB.now.mem (i := 1) (by decide) (by decide)) hB.now.set ⟨by omega, by omega⟩ (by decide) dX5_count_80 rfl ?_
      exact g_iret X hret ⟨Nat.le_of_ble_eq_true rfl, Nat.le_of_ble_eq_true rfl⟩ dX5_count_81 ⟨by rw [anCount, if_pos (by omega)]; exact congrArg _ (congrArg _ (congrArg iI (hR.1.at (by omega) (by omega)))), rfl, hB.fin hR hO⟩
    · refine g_tsIn X dX5_count_1 hw 4 h_1a (by decide) (by decide) rfl (by decide : _ = ((82 : Nat) : Int)) ?_
      refine g_aload_n X 0 rfl dX5_count_82 rfl ?_
      refine g_get X cl_X5 0 (by decide) wf_X5_10 rfl (hA.mem (s := 10) (k := 0) (by unfold inD; omega)) hB.obj rfl dX5_count_83 rfl ?_
      refine g_getN X cl_X3 4 (by decide) wf_X5_104 rfl (hB.now.mem (i := 0) (by decide) (by decide)) hB.now.obj rfl dX5_count_86 rfl ?_
      exact g_iret X hret ⟨Nat.le_of_ble_eq_true rfl, Nat.le_of_ble_eq_true rfl⟩ dX5_count_89 ⟨by rw [anCount, if_pos (by omega)]; exact congrArg _ (congrArg _ (congrArg iI ((hR.1.at (k := 4) (by decide) (by decide)).trans (congrArg g (by omega))))), rfl, hB.fin hR hO⟩
    · refine g_tsIn X dX5_count_1 hw 5 h_1a (by decide) (by decide) rfl (by decide : _ = ((90 : Nat) : Int)) ?_
      refine g_aload_n X 0 rfl dX5_count_90 rfl ?_
      refine g_get X cl_X5 0 (by decide) wf_X5_10 rfl (hA.mem (s := 10) (k := 0) (by unfold inD; omega)) hB.obj rfl dX5_count_91 rfl ?_
      refine g_getN X cl_X3 3 (by decide) wf_X5_62 rfl (hB.now.mem (i := 0) (by decide) (by decide)) hB.now.obj rfl dX5_count_94 rfl ?_
      exact g_iret X hret ⟨Nat.le_of_ble_eq_true rfl, Nat.le_of_ble_eq_true rfl⟩ dX5_count_97 ⟨by rw [anCount, if_pos (by omega)]; exact congrArg _ (congrArg _ (congrArg iI ((hR.1.at (k := 5) (by decide) (by decide)).trans (congrArg g (by omega))))), rfl, hB.fin hR hO⟩
    · refine g_tsIn X dX5_count_1 hw 6 h_1a (by decide) (by decide) rfl (by decide : _ = ((98 : Nat) : Int)) ?_
      refine g_aload_n X 0 rfl dX5_count_98 rfl ?_
      refine g_get X cl_X5 0 (by decide) wf_X5_10 rfl (hA.mem (s := 10) (k := 0) (by unfold inD; omega)) hB.obj rfl dX5_count_99 rfl ?_
      refine g_iconst X (z := 3) dX5_count_102 rfl ?_
      refine g_callVN X (ct_X3_total l (Sg 0) c 3) (host := "StrideBanks") (As := [.int (iI 3)]) (rest := []) cl_X3 rfl ca_X3_total rfl wm_X5_111 wi_X3_total ws_X3_total wc_X3_total w0_X3 ⟨by decide, by decide⟩ (hB.now.mem (i := 0) (by decide) (by decide)) hB.now.obj (by decide) ⟨by decide, by decide⟩ rfl dX5_count_103 rfl ⟨rfl, hB.now, hR.rows hI, (by omega), ⟨by decide, by decide⟩⟩ (fun r1 L1 M1 hq => ?_)
      obtain ⟨rfl, rfl, rfl⟩ := hq
      refine g_st (st' := [.int (iI (toS c 3 (c 5).toNat))]) rfl ?_
      exact g_iret X hret ⟨Nat.le_of_ble_eq_true rfl, Nat.le_of_ble_eq_true rfl⟩ dX5_count_106 ⟨by rw [anCount, if_neg (by omega), if_pos (by omega)]; exact congrArg _ (congrArg _ (congrArg iI (tot_left hR (by omega)))), rfl, hB.fin hR hO⟩
    · refine g_tsIn X dX5_count_1 hw 7 h_1a (by decide) (by decide) rfl (by decide : _ = ((107 : Nat) : Int)) ?_
      refine g_aload_n X 0 rfl dX5_count_107 rfl ?_
      refine g_get X cl_X5 0 (by decide) wf_X5_10 rfl (hA.mem (s := 10) (k := 0) (by unfold inD; omega)) hB.obj rfl dX5_count_108 rfl ?_
      refine g_iconst X (z := 2) dX5_count_111 rfl ?_
      refine g_callVN X (ct_X3_total l (Sg 0) c 2) (host := "StrideBanks") (As := [.int (iI 2)]) (rest := []) cl_X3 rfl ca_X3_total rfl wm_X5_111 wi_X3_total ws_X3_total wc_X3_total w0_X3 ⟨by decide, by decide⟩ (hB.now.mem (i := 0) (by decide) (by decide)) hB.now.obj (by decide) ⟨by decide, by decide⟩ rfl dX5_count_112 rfl ⟨rfl, hB.now, hR.rows hI, (by omega), ⟨by decide, by decide⟩⟩ (fun r1 L1 M1 hq => ?_)
      obtain ⟨rfl, rfl, rfl⟩ := hq
      refine g_st (st' := [.int (iI (toS c 2 (c 5).toNat))]) rfl ?_
      refine g_aload_n X 0 rfl dX5_count_115 rfl ?_
      refine g_get X cl_X5 0 (by decide) wf_X5_10 rfl (hA.mem (s := 10) (k := 0) (by unfold inD; omega)) hB.obj rfl dX5_count_116 rfl ?_
      refine g_iconst X (z := 3) dX5_count_119 rfl ?_
      refine g_callVN X (ct_X3_total l (Sg 0) c 3) (host := "StrideBanks") (As := [.int (iI 3)]) (rest := [.int (iI (toS c 2 (c 5).toNat))]) cl_X3 rfl ca_X3_total rfl wm_X5_111 wi_X3_total ws_X3_total wc_X3_total w0_X3 ⟨by decide, by decide⟩ (hB.now.mem (i := 0) (by decide) (by decide)) hB.now.obj (Nat.le_of_ble_eq_true rfl) ⟨by decide, by decide⟩ rfl dX5_count_120 rfl ⟨rfl, hB.now, hR.rows hI, (by omega), ⟨by decide, by decide⟩⟩ (fun r1 L1 M1 hq => ?_)
      obtain ⟨rfl, rfl, rfl⟩ := hq
      refine g_st (st' := [.int (iI (toS c 3 (c 5).toNat)), .int (iI (toS c 2 (c 5).toNat))]) rfl ?_
      refine g_isub X dX5_count_123 rfl ?_
      exact g_iret X hret ⟨Nat.le_of_ble_eq_true rfl, Nat.le_of_ble_eq_true rfl⟩ dX5_count_124 ⟨by rw [anCount, if_neg (by omega), if_neg (by omega), if_pos (by omega)]; exact congrArg _ (congrArg _ (congrArg iI ((tot_done hR (by omega)).trans (congrArg (ofG g) (by omega))))), rfl, hB.fin hR hO⟩
    · refine g_tsIn X dX5_count_1 hw 8 h_1a (by decide) (by decide) rfl (by decide : _ = ((125 : Nat) : Int)) ?_
      refine g_aload_n X 0 rfl dX5_count_125 rfl ?_
      refine g_get X cl_X5 0 (by decide) wf_X5_10 rfl (hA.mem (s := 10) (k := 0) (by unfold inD; omega)) hB.obj rfl dX5_count_126 rfl ?_
      refine g_iconst X (z := 5) dX5_count_129 rfl ?_
      refine g_callVN X (ct_X3_total l (Sg 0) c 5) (host := "StrideBanks") (As := [.int (iI 5)]) (rest := []) cl_X3 rfl ca_X3_total rfl wm_X5_111 wi_X3_total ws_X3_total wc_X3_total w0_X3 ⟨by decide, by decide⟩ (hB.now.mem (i := 0) (by decide) (by decide)) hB.now.obj (by decide) ⟨by decide, by decide⟩ rfl dX5_count_130 rfl ⟨rfl, hB.now, hR.rows hI, (by omega), ⟨by decide, by decide⟩⟩ (fun r1 L1 M1 hq => ?_)
      obtain ⟨rfl, rfl, rfl⟩ := hq
      refine g_st (st' := [.int (iI (toS c 5 (c 5).toNat))]) rfl ?_
      exact g_iret X hret ⟨Nat.le_of_ble_eq_true rfl, Nat.le_of_ble_eq_true rfl⟩ dX5_count_133 ⟨by rw [anCount, if_neg (by omega), if_neg (by omega), if_pos (by omega)]; exact congrArg _ (congrArg _ (congrArg iI ((tot_st hR (by omega)).trans (congrArg (ofG g) (by omega))))), rfl, hB.fin hR hO⟩
    · refine g_tsIn X dX5_count_1 hw 9 h_1a (by decide) (by decide) rfl (by decide : _ = ((134 : Nat) : Int)) ?_
      refine g_aload_n X 0 rfl dX5_count_134 rfl ?_
      refine g_get X cl_X5 0 (by decide) wf_X5_10 rfl (hA.mem (s := 10) (k := 0) (by unfold inD; omega)) hB.obj rfl dX5_count_135 rfl ?_
      refine g_bipush X (z := 6) (by decide +kernel) dX5_count_138 rfl ?_
      refine g_callVN X (ct_X3_total l (Sg 0) c 6) (host := "StrideBanks") (As := [.int (iI 6)]) (rest := []) cl_X3 rfl ca_X3_total rfl wm_X5_111 wi_X3_total ws_X3_total wc_X3_total w0_X3 ⟨by decide, by decide⟩ (hB.now.mem (i := 0) (by decide) (by decide)) hB.now.obj (by decide) ⟨by decide, by decide⟩ rfl dX5_count_140 rfl ⟨rfl, hB.now, hR.rows hI, (by omega), ⟨by decide, by decide⟩⟩ (fun r1 L1 M1 hq => ?_)
      obtain ⟨rfl, rfl, rfl⟩ := hq
      refine g_st (st' := [.int (iI (toS c 6 (c 5).toNat))]) rfl ?_
      exact g_iret X hret ⟨Nat.le_of_ble_eq_true rfl, Nat.le_of_ble_eq_true rfl⟩ dX5_count_143 ⟨by rw [anCount, if_neg (by omega), if_neg (by omega), if_pos (by omega)]; exact congrArg _ (congrArg _ (congrArg iI ((tot_cl hR (by omega)).trans (congrArg (ofG g) (by omega))))), rfl, hB.fin hR hO⟩
    · refine g_tsIn X dX5_count_1 hw 10 h_1a (by decide) (by decide) rfl (by decide : _ = ((144 : Nat) : Int)) ?_
      refine g_aload_n X 0 rfl dX5_count_144 rfl ?_
      refine g_get X cl_X5 0 (by decide) wf_X5_10 rfl (hA.mem (s := 10) (k := 0) (by unfold inD; omega)) hB.obj rfl dX5_count_145 rfl ?_
      refine g_callVN X (ct_X3_busyBanks l (Sg 0) c) (host := "StrideBanks") (As := []) (rest := []) cl_X3 rfl ca_X3_busyBanks rfl wm_X5_148 wi_X3_busyBanks ws_X3_busyBanks wc_X3_busyBanks w0_X3 ⟨by decide, by decide⟩ (hB.now.mem (i := 0) (by decide) (by decide)) hB.now.obj (by decide) ⟨by decide, by decide⟩ rfl dX5_count_148 rfl ⟨rfl, hB.now, fun b b0 b1 => (by have h1 := (hRB b b0 b1).1; have h2 := hI.2.1 b b0 b1; exact ⟨by omega, by omega⟩), ⟨by omega, by omega⟩⟩ (fun r1 L1 M1 hq => ?_)
      obtain ⟨rfl, rfl, rfl⟩ := hq
      refine g_st (st' := [.int (iI (bzS c 16))]) rfl ?_
      exact g_iret X hret ⟨Nat.le_of_ble_eq_true rfl, Nat.le_of_ble_eq_true rfl⟩ dX5_count_151 ⟨by rw [anCount, if_neg (by omega), if_neg (by omega), if_neg (by omega), if_pos (by omega)]; exact congrArg _ (congrArg _ (congrArg iI (bz_bb hR hI hZ))), rfl, hB.fin hR hO⟩
    · refine g_tsIn X dX5_count_1 hw 11 h_1a (by decide) (by decide) rfl (by decide : _ = ((152 : Nat) : Int)) ?_
      refine g_aload_n X 0 rfl dX5_count_152 rfl ?_
      refine g_get X cl_X5 0 (by decide) wf_X5_10 rfl (hA.mem (s := 10) (k := 0) (by unfold inD; omega)) hB.obj rfl dX5_count_153 rfl ?_
      refine g_callVN X (ct_X3_greatestPrime l (Sg 0) c) (host := "StrideBanks") (As := []) (rest := []) cl_X3 rfl ca_X3_greatestPrime rfl wm_X5_151 wi_X3_greatestPrime ws_X3_greatestPrime wc_X3_greatestPrime w0_X3 ⟨by decide, by decide⟩ (hB.now.mem (i := 0) (by decide) (by decide)) hB.now.obj (by decide) ⟨by decide, by decide⟩ rfl dX5_count_156 rfl ⟨rfl, hB.now, by omega⟩ (fun r1 L1 M1 hq => ?_)
      obtain ⟨rfl, rfl, rfl⟩ := hq
      refine g_st (st' := [.int (iI (tGP (c 0)))]) rfl ?_
      exact g_iret X hret ⟨Nat.le_of_ble_eq_true rfl, Nat.le_of_ble_eq_true rfl⟩ dX5_count_159 ⟨by rw [anCount, if_neg (by omega), if_neg (by omega), if_neg (by omega), if_neg (by omega), if_pos (by omega)]; exact congrArg _ (congrArg _ (congrArg iI (congrArg tGP e0))), rfl, hB.fin hR hO⟩
    · refine g_tsIn X dX5_count_1 hw 12 h_1a (by decide) (by decide) rfl (by decide : _ = ((160 : Nat) : Int)) ?_
      refine g_aload_n X 0 rfl dX5_count_160 rfl ?_
      refine g_get X cl_X5 5 (by decide) wf_X5_37 rfl (hA.mem (s := 10) (k := 0) (by unfold inD; omega)) hB.obj rfl dX5_count_161 rfl ?_
      refine g_getN X cl_X2 1 (by decide) wf_X5_81 rfl (hA.mem (s := 10) (k := 5) (by unfold inD; omega)) hB.pobj rfl dX5_count_164 rfl ?_
      exact g_iret X hret ⟨Nat.le_of_ble_eq_true rfl, Nat.le_of_ble_eq_true rfl⟩ dX5_count_167 ⟨by rw [anCount, if_neg (by omega), if_neg (by omega), if_neg (by omega), if_neg (by omega), if_neg (by omega), if_pos (by omega)], rfl, hB.fin hR hO⟩
    · refine g_tsIn X dX5_count_1 hw 13 h_1a (by decide) (by decide) rfl (by decide : _ = ((168 : Nat) : Int)) ?_
      refine g_aload_n X 0 rfl dX5_count_168 rfl ?_
      refine g_get X cl_X5 2 (by decide) wf_X5_22 rfl (hA.mem (s := 10) (k := 0) (by unfold inD; omega)) hB.obj rfl dX5_count_169 rfl ?_
      refine g_getN X cl_X1 1 (by decide) wf_X5_154 rfl (hA.mem (s := 10) (k := 1) (by unfold inD; omega)) hB.hobj rfl dX5_count_172 rfl ?_
      exact g_iret X hret ⟨Nat.le_of_ble_eq_true rfl, Nat.le_of_ble_eq_true rfl⟩ dX5_count_175 ⟨by rw [anCount, if_neg (by omega), if_neg (by omega), if_neg (by omega), if_neg (by omega), if_neg (by omega), if_neg (by omega), if_pos (by omega)], rfl, hB.fin hR hO⟩
  · refine g_tsOut X dX5_count_1 hw (by omega) (by decide : _ = ((176 : Nat) : Int)) ?_
    refine g_bipush X (z := -2) (by decide +kernel) dX5_count_176 rfl ?_
    exact g_iret X hret ⟨Nat.le_of_ble_eq_true rfl, Nat.le_of_ble_eq_true rfl⟩ dX5_count_178 ⟨by rw [anCount, if_neg (by omega), if_neg (by omega), if_neg (by omega), if_neg (by omega), if_neg (by omega), if_neg (by omega), if_neg (by omega)], rfl, hB.fin hR hO⟩
set_option maxRecDepth 100000 in
set_option maxHeartbeats 4000000 in
theorem ct_X5_undo (l : Launch) (Sg : Int → Int → Nat) (g be sa iz pa : Int → Int) (len st : Int) : Ct l yX5_undo cX5_undo 1 (some .int) 5 0 0 (fun ca av L M => av = [.ref (Sg 10 0)] ∧ SBm ca L M Sg (g, be, sa, iz, pa, len, st) ∧ WfA (g, be, sa, iz, pa, len, st)) (fun ca av L M r L1 M1 => r = some (.int (iI (anUndo (g, be, sa, iz, pa, len, st)))) ∧ L = L1 ∧ SBo ca L M M1 Sg (opUndo (g, be, sa, iz, pa, len, st))) := by
  refine Ct_of (own := RX5) (by decide) rfl (by rintro _ _ _ _ ⟨rfl, _⟩; exact Nat.le_of_ble_eq_true rfl) ?_
  rintro p e s m args below meth cod D ca A av L M ⟨rfl, hSB, hW⟩ X hret hname
  refine g_lv (lv' := [(0, .ref (Sg 10 0))]) [0] rfl ?_
  obtain ⟨c, ct, nf, nu, hB, hR⟩ : ∃ (c ct : Int → Int) (nf : Int) (nu : Int → Int), SBc ca L M Sg be sa iz pa nu len nf st c ct ∧ Rel c g := SBm.opn hSB
  have hA := hB.adr
  have hO := outA.refl Sg M
  obtain ⟨hWg, hln, hst, hpa, hWh, hWs⟩ : WfG g ∧ (0 ≤ len ∧ len ≤ 60) ∧ (0 ≤ st ∧ st ≤ 6) ∧ InvP pa ∧ (∀ j, 0 ≤ j → j < st → WfG (blk (110 * j) be)) ∧ (∀ k, 0 ≤ k → k < 2 → (iz k = 0 ∨ iz k = 1) ∧ (iz k ≠ 0 → WfG (blk (110 * k) sa))) := id hW
  obtain ⟨hI, hZ, h4⟩ := id hWg
  obtain ⟨⟨i00, i01⟩, ⟨i10, i11⟩, ⟨i20, i21⟩, ⟨i30, i31⟩, ⟨i40, i41⟩, i50, i51⟩ := id hI.1
  obtain ⟨⟨e0, e1, e2, e3, e4, e5⟩, hRB, hRR⟩ := id hR
  refine g_aload_n X 0 rfl dX5_undo_0 rfl ?_
  refine g_get X cl_X5 2 (by decide) wf_X5_22 rfl (hA.mem (s := 10) (k := 0) (by unfold inD; omega)) hB.obj rfl dX5_undo_1 rfl ?_
  refine g_getN X cl_X1 1 (by decide) wf_X5_154 rfl (hA.mem (s := 10) (k := 1) (by unfold inD; omega)) hB.hobj rfl dX5_undo_4 rfl ?_
  refine g_if_ne X ⟨by omega, by omega⟩ (tgt := 13) dX5_undo_7 (by decide) rfl (fun h_1 => ?_) (fun h_1 => ?_)
  · refine g_aload_n X 0 rfl dX5_undo_13 rfl ?_
    refine g_get X cl_X5 2 (by decide) wf_X5_22 rfl (hA.mem (s := 10) (k := 0) (by unfold inD; omega)) hB.obj rfl dX5_undo_14 rfl ?_
    refine g_aload_n X 0 rfl dX5_undo_17 rfl ?_
    refine g_get X cl_X5 0 (by decide) wf_X5_10 rfl (hA.mem (s := 10) (k := 0) (by unfold inD; omega)) hB.obj rfl dX5_undo_18 rfl ?_
    refine g_callVN X (ct_X1_takeBack l Sg st be c) (host := "StrideBanks") (As := [.ref (Sg 0 0)]) (rest := []) cl_X1 rfl ca_X1_takeBack rfl wm_X5_186 wi_X1_takeBack ws_X1_takeBack wc_X1_takeBack w0_X1 ⟨by decide, by decide⟩ (hA.mem (s := 10) (k := 1) (by unfold inD; omega)) hB.hobj (by decide) ⟨by decide, by decide⟩ rfl dX5_undo_21 rfl ⟨rfl, hA, hB.hist, by omega, hB.now⟩ (fun r1 L1 M_2 hq => ?_)
    obtain ⟨rfl, rfl, hH_3, ⟨c_6, hs_4, hR_5⟩, fr_7⟩ := hq
    obtain ⟨hB_8, hO_9⟩ := hB.toBack hH_3 hs_4 fr_7
    have hO_9 := hO.trans hO_9
    refine g_st (st' := []) rfl ?_
    refine g_aload_n X 0 rfl dX5_undo_24 rfl ?_
    refine g_get X cl_X5 2 (by decide) wf_X5_22 rfl (hA.mem (s := 10) (k := 0) (by unfold inD; omega)) hB_8.obj rfl dX5_undo_25 rfl ?_
    refine g_getN X cl_X1 1 (by decide) wf_X5_154 rfl (hA.mem (s := 10) (k := 1) (by unfold inD; omega)) hB_8.hobj rfl dX5_undo_28 rfl ?_
    have hn : ¬ st = 0 := by omega
    exact g_iret X hret ⟨Nat.le_of_ble_eq_true rfl, Nat.le_of_ble_eq_true rfl⟩ dX5_undo_31 ⟨by rw [anUndo, if_neg hn], rfl, by rw [opUndo, if_neg hn]; exact hB_8.fin hR_5 hO_9⟩
  · refine g_bipush X (z := -5) (by decide +kernel) dX5_undo_10 rfl ?_
    have hn : st = 0 := by omega
    exact g_iret X hret ⟨Nat.le_of_ble_eq_true rfl, Nat.le_of_ble_eq_true rfl⟩ dX5_undo_12 ⟨by rw [anUndo, if_pos hn], rfl, by rw [opUndo, if_pos hn]; exact hB.fin hR hO⟩
