/-! the class: saved states -/
set_option maxRecDepth 100000 in
set_option maxHeartbeats 4000000 in
theorem ct_X5_save (l : Launch) (Sg : Int → Int → Nat) (g be sa iz pa : Int → Int) (len st : Int) (k : Int) : Ct l yX5_save cX5_save 2 (some .int) 5 0 0 (fun ca av L M => av = [.ref (Sg 10 0), .int (iI k)] ∧ SBm ca L M Sg (g, be, sa, iz, pa, len, st) ∧ WfA (g, be, sa, iz, pa, len, st) ∧ R32 k) (fun ca av L M r L1 M1 => r = some (.int (iI (anSave (g, be, sa, iz, pa, len, st) k))) ∧ L = L1 ∧ SBo ca L M M1 Sg (opSave (g, be, sa, iz, pa, len, st) k)) := by
  refine Ct_of (own := RX5) (by decide) rfl (by rintro _ _ _ _ ⟨rfl, _⟩; exact Nat.le_of_ble_eq_true rfl) ?_
  rintro p e s m args below meth cod D ca A av L M ⟨rfl, hSB, hW, hk⟩ X hret hname
  refine g_lv (lv' := [(0, .ref (Sg 10 0)), (1, .int (iI k))]) [0, 1] rfl ?_
  obtain ⟨c, ct, nf, nu, hB, hR⟩ : ∃ (c ct : Int → Int) (nf : Int) (nu : Int → Int), SBc ca L M Sg be sa iz pa nu len nf st c ct ∧ Rel c g := SBm.opn hSB
  have hA := hB.adr
  have hO := outA.refl Sg M
  obtain ⟨hWg, hln, hst, hpa, hWh, hWs⟩ : WfG g ∧ (0 ≤ len ∧ len ≤ 60) ∧ (0 ≤ st ∧ st ≤ 6) ∧ InvP pa ∧ (∀ j, 0 ≤ j → j < st → WfG (blk (110 * j) be)) ∧ (∀ k, 0 ≤ k → k < 2 → (iz k = 0 ∨ iz k = 1) ∧ (iz k ≠ 0 → WfG (blk (110 * k) sa))) := id hW
  obtain ⟨hI, hZ, h4⟩ := id hWg
  obtain ⟨⟨i00, i01⟩, ⟨i10, i11⟩, ⟨i20, i21⟩, ⟨i30, i31⟩, ⟨i40, i41⟩, i50, i51⟩ := id hI.1
  obtain ⟨⟨e0, e1, e2, e3, e4, e5⟩, hRB, hRR⟩ := id hR
  refine g_iload_n X 1 rfl dX5_save_0 rfl ?_
  refine g_iconst X (z := 0) dX5_save_1 rfl ?_
  refine g_iconst X (z := 1) dX5_save_2 rfl ?_
  refine g_callS X (ct_X5_isIn l k 0 1) (As := [.int (iI k), .int (iI 0), .int (iI 1)]) (rest := []) rfl ca_X5_isIn rfl wm_X5_41 wt_X5_isIn wc_X5_isIn w0_X5 ⟨by decide, by decide⟩ (by decide) ⟨by decide, by decide⟩ rfl dX5_save_3 rfl ⟨rfl, hk, ⟨by decide, by decide⟩, ⟨by decide, by decide⟩⟩ (fun r1 L1 M1 hq => ?_)
  obtain ⟨rfl, rfl, rfl⟩ := hq
  refine g_st (st' := [.int (iI (if 0 ≤ k ∧ k ≤ 1 then 1 else 0))]) rfl ?_
  refine g_if_neb X (tgt := 12) dX5_save_6 (by decide) rfl (fun h_1 => ?_) (fun h_1 => ?_)
  · refine g_aload_n X 0 rfl dX5_save_12 rfl ?_
    refine g_get X cl_X5 3 (by decide) wf_X5_26 rfl (hA.mem (s := 10) (k := 0) (by unfold inD; omega)) hB.obj rfl dX5_save_13 rfl ?_
    refine g_iload_n X 1 rfl dX5_save_16 rfl ?_
    refine g_aald X (t := 4) rfl (hA.mem (s := 10) (k := 3) (by unfold inD; omega)) hB.slr ⟨by omega, by omega⟩ (by decide) (if_pos (by omega)) dX5_save_17 rfl ?_
    obtain ⟨cs_2, hsl_3, hrl_4⟩ := hB.slots k (by omega) (by omega)
    refine g_aload_n X 0 rfl dX5_save_18 rfl ?_
    refine g_get X cl_X5 0 (by decide) wf_X5_10 rfl (hA.mem (s := 10) (k := 0) (by unfold inD; omega)) hB.obj rfl dX5_save_19 rfl ?_
    refine g_callVN X (ct_X3_copy l (Sg (2 + k)) cs_2 (Sg 0) c) (host := "StrideBanks") (As := [.ref (Sg 0 0)]) (rest := []) cl_X3 rfl ca_X3_copy rfl wm_X5_157 wi_X3_copy ws_X3_copy wc_X3_copy w0_X3 ⟨by decide, by decide⟩ (hsl_3.mem (i := 0) (by decide) (by decide)) hsl_3.obj (by decide) ⟨by decide, by decide⟩ rfl dX5_save_22 rfl ⟨rfl, hsl_3, hB.now, hA.dis (by omega) (by omega) (by omega) (by omega) (by omega)⟩ (fun r1 L1 M_5 hq => ?_)
    obtain ⟨rfl, rfl, hs_6, hs_7, fr_8⟩ := hq
    have hB_9 := hB.toSlot (k := k) (by omega) (by omega) hs_6 hR (by omega) (fun j j0 j1 hz => ((hWs j j0 j1).2 hz).1.1.2.2.2.2.2.2) fr_8
    have hO_10 := hO.trans (outA.ofS (s := 2 + k) (by omega) (by omega) fr_8)
    refine g_st (st' := []) rfl ?_
    refine g_aload_n X 0 rfl dX5_save_25 rfl ?_
    refine g_get X cl_X5 4 (by decide) wf_X5_30 rfl (hA.mem (s := 10) (k := 0) (by unfold inD; omega)) hB_9.obj rfl dX5_save_26 rfl ?_
    refine g_iload_n X 1 rfl dX5_save_29 rfl ?_
    refine g_iconst X (z := 1) dX5_save_30 rfl ?_
    refine g_zast X (hA.mem (s := 10) (k := 4) (by unfold inD; omega)) hB_9.szr ⟨by omega, by omega⟩ (by decide) nar_z1 dX5_save_31 rfl (fun M_11 hM_12 fr_13 => ?_)
    have hB_14 := hB_9.toSaved (k := k) (by omega) (by omega) hs_6 (rel_put hR (by omega)) hM_12 fr_13
    have hO_15 := hO_10.trans (outA.one (s := 10) (k := 4) (by unfold inD; omega) fr_13)
    refine g_aload_n X 0 rfl dX5_save_32 rfl ?_
    refine g_get X cl_X5 0 (by decide) wf_X5_10 rfl (hA.mem (s := 10) (k := 0) (by unfold inD; omega)) hB_14.obj rfl dX5_save_33 rfl ?_
    refine g_getN X cl_X3 4 (by decide) wf_X5_104 rfl (hB_14.now.mem (i := 0) (by decide) (by decide)) hB_14.now.obj rfl dX5_save_36 rfl ?_
    have hn : 0 ≤ k ∧ k ≤ 1 := by omega
    exact g_iret X hret ⟨Nat.le_of_ble_eq_true rfl, Nat.le_of_ble_eq_true rfl⟩ dX5_save_39 ⟨by rw [anSave, if_pos hn]; exact congrArg _ (congrArg _ (congrArg iI e4)), rfl, by rw [opSave, if_pos hn]; exact hB_14.fin hR hO_15⟩
  · refine g_bipush X (z := -2) (by decide +kernel) dX5_save_9 rfl ?_
    have hn : ¬ (0 ≤ k ∧ k ≤ 1) := by omega
    exact g_iret X hret ⟨Nat.le_of_ble_eq_true rfl, Nat.le_of_ble_eq_true rfl⟩ dX5_save_11 ⟨by rw [anSave, if_neg hn], rfl, by rw [opSave, if_neg hn]; exact hB.fin hR hO⟩
set_option maxRecDepth 100000 in
set_option maxHeartbeats 4000000 in
theorem ct_X5_restore (l : Launch) (Sg : Int → Int → Nat) (g be sa iz pa : Int → Int) (len st : Int) (k : Int) : Ct l yX5_restore cX5_restore 2 (some .int) 5 0 0 (fun ca av L M => av = [.ref (Sg 10 0), .int (iI k)] ∧ SBm ca L M Sg (g, be, sa, iz, pa, len, st) ∧ WfA (g, be, sa, iz, pa, len, st) ∧ R32 k) (fun ca av L M r L1 M1 => r = some (.int (iI (anRestore (g, be, sa, iz, pa, len, st) k))) ∧ L = L1 ∧ SBo ca L M M1 Sg (opRestore (g, be, sa, iz, pa, len, st) k)) := by
  refine Ct_of (own := RX5) (by decide) rfl (by rintro _ _ _ _ ⟨rfl, _⟩; exact Nat.le_of_ble_eq_true rfl) ?_
  rintro p e s m args below meth cod D ca A av L M ⟨rfl, hSB, hW, hk⟩ X hret hname
  refine g_lv (lv' := [(0, .ref (Sg 10 0)), (1, .int (iI k))]) [0, 1] rfl ?_
  obtain ⟨c, ct, nf, nu, hB, hR⟩ : ∃ (c ct : Int → Int) (nf : Int) (nu : Int → Int), SBc ca L M Sg be sa iz pa nu len nf st c ct ∧ Rel c g := SBm.opn hSB
  have hA := hB.adr
  have hO := outA.refl Sg M
  obtain ⟨hWg, hln, hst, hpa, hWh, hWs⟩ : WfG g ∧ (0 ≤ len ∧ len ≤ 60) ∧ (0 ≤ st ∧ st ≤ 6) ∧ InvP pa ∧ (∀ j, 0 ≤ j → j < st → WfG (blk (110 * j) be)) ∧ (∀ k, 0 ≤ k → k < 2 → (iz k = 0 ∨ iz k = 1) ∧ (iz k ≠ 0 → WfG (blk (110 * k) sa))) := id hW
  obtain ⟨hI, hZ, h4⟩ := id hWg
  obtain ⟨⟨i00, i01⟩, ⟨i10, i11⟩, ⟨i20, i21⟩, ⟨i30, i31⟩, ⟨i40, i41⟩, i50, i51⟩ := id hI.1
  obtain ⟨⟨e0, e1, e2, e3, e4, e5⟩, hRB, hRR⟩ := id hR
  refine g_iload_n X 1 rfl dX5_restore_0 rfl ?_
  refine g_iconst X (z := 0) dX5_restore_1 rfl ?_
  refine g_iconst X (z := 1) dX5_restore_2 rfl ?_
  refine g_callS X (ct_X5_isIn l k 0 1) (As := [.int (iI k), .int (iI 0), .int (iI 1)]) (rest := []) rfl ca_X5_isIn rfl wm_X5_41 wt_X5_isIn wc_X5_isIn w0_X5 ⟨by decide, by decide⟩ (by decide) ⟨by decide, by decide⟩ rfl dX5_restore_3 rfl ⟨rfl, hk, ⟨by decide, by decide⟩, ⟨by decide, by decide⟩⟩ (fun r1 L1 M1 hq => ?_)
  obtain ⟨rfl, rfl, rfl⟩ := hq
  refine g_st (st' := [.int (iI (if 0 ≤ k ∧ k ≤ 1 then 1 else 0))]) rfl ?_
  refine g_if_neb X (tgt := 12) dX5_restore_6 (by decide) rfl (fun h_1 => ?_) (fun h_1 => ?_)
  · obtain ⟨hwk, hwg⟩ := hWs k (by omega) (by omega)
    refine g_aload_n X 0 rfl dX5_restore_12 rfl ?_
    refine g_get X cl_X5 4 (by decide) wf_X5_30 rfl (hA.mem (s := 10) (k := 0) (by unfold inD; omega)) hB.obj rfl dX5_restore_13 rfl ?_
    refine g_iload_n X 1 rfl dX5_restore_16 rfl ?_
    refine g_zald X (hA.mem (s := 10) (k := 4) (by unfold inD; omega)) hB.szr ⟨by omega, by omega⟩ (by decide) dX5_restore_17 rfl ?_
    refine g_if_ne X ⟨by omega, by omega⟩ (tgt := 24) dX5_restore_18 (by decide) rfl (fun h_2 => ?_) (fun h_2 => ?_)
    · refine g_aload_n X 0 rfl dX5_restore_24 rfl ?_
      refine g_get X cl_X5 2 (by decide) wf_X5_22 rfl (hA.mem (s := 10) (k := 0) (by unfold inD; omega)) hB.obj rfl dX5_restore_25 rfl ?_
      refine g_aload_n X 0 rfl dX5_restore_28 rfl ?_
      refine g_get X cl_X5 0 (by decide) wf_X5_10 rfl (hA.mem (s := 10) (k := 0) (by unfold inD; omega)) hB.obj rfl dX5_restore_29 rfl ?_
      have hz9 : ¬ iz k = 0 := by omega
      refine g_callVN X (ct_X1_record l Sg st be c g) (host := "StrideBanks") (As := [.ref (Sg 0 0)]) (rest := []) cl_X1 rfl ca_X1_record rfl wm_X5_52 wi_X1_record ws_X1_record wc_X1_record w0_X1 ⟨by decide, by decide⟩ (hA.mem (s := 10) (k := 1) (by unfold inD; omega)) hB.hobj (by decide) ⟨by decide, by decide⟩ rfl dX5_restore_32 rfl ⟨rfl, hA, hB.hist, hst, hB.now, hR, hI.1.2.2.2.2.2.2, fun j j0 j1 => (hWh j j0 j1).1.1.2.2.2.2.2.2⟩ (fun r1 L1 M_3 hq => ?_)
      obtain ⟨rfl, rfl, hH_4, hs_5, fr_6⟩ := hq
      obtain ⟨hB_7, hO_8⟩ := hB.toRec hH_4 hs_5 fr_6
      have hO_8 := hO.trans hO_8
      refine g_st (st' := []) rfl ?_
      refine g_aload_n X 0 rfl dX5_restore_35 rfl ?_
      refine g_get X cl_X5 0 (by decide) wf_X5_10 rfl (hA.mem (s := 10) (k := 0) (by unfold inD; omega)) hB_7.obj rfl dX5_restore_36 rfl ?_
      refine g_aload_n X 0 rfl dX5_restore_39 rfl ?_
      refine g_get X cl_X5 3 (by decide) wf_X5_26 rfl (hA.mem (s := 10) (k := 0) (by unfold inD; omega)) hB_7.obj rfl dX5_restore_40 rfl ?_
      refine g_iload_n X 1 rfl dX5_restore_43 rfl ?_
      refine g_aald X (t := 4) rfl (hA.mem (s := 10) (k := 3) (by unfold inD; omega)) hB_7.slr ⟨by omega, by omega⟩ (by decide) (if_pos (by omega)) dX5_restore_44 rfl ?_
      obtain ⟨cs_9, hsl_10, hrl_11⟩ := hB_7.slots k (by omega) (by omega)
      refine g_callVN X (ct_X3_copy l (Sg 0) c (Sg (2 + k)) cs_9) (host := "StrideBanks") (As := [.ref (Sg (2 + k) 0)]) (rest := []) cl_X3 rfl ca_X3_copy rfl wm_X5_157 wi_X3_copy ws_X3_copy wc_X3_copy w0_X3 ⟨by decide, by decide⟩ (hB_7.now.mem (i := 0) (by decide) (by decide)) hB_7.now.obj (by decide) ⟨by decide, by decide⟩ rfl dX5_restore_45 rfl ⟨rfl, hB_7.now, hsl_10, hA.dis (by omega) (by omega) (by omega) (by omega) (by omega)⟩ (fun r1 L1 M_12 hq => ?_)
      obtain ⟨rfl, rfl, hs_13, hs_14, fr_15⟩ := hq
      have hRs := hrl_11 hz9
      have hB_16 := hB_7.toNow hs_13 fr_15
      have hO_17 := hO_8.trans (outA.ofS (s := 0) (by decide) (by decide) fr_15)
      refine g_st (st' := []) rfl ?_
      refine g_aload_n X 0 rfl dX5_restore_48 rfl ?_
      refine g_get X cl_X5 0 (by decide) wf_X5_10 rfl (hA.mem (s := 10) (k := 0) (by unfold inD; omega)) hB_16.obj rfl dX5_restore_49 rfl ?_
      refine g_getN X cl_X3 4 (by decide) wf_X5_104 rfl (hB_16.now.mem (i := 0) (by decide) (by decide)) hB_16.now.obj rfl dX5_restore_52 rfl ?_
      have hn : 0 ≤ k ∧ k ≤ 1 := by omega
      exact g_iret X hret ⟨Nat.le_of_ble_eq_true rfl, Nat.le_of_ble_eq_true rfl⟩ dX5_restore_55 ⟨by rw [anRestore, if_pos hn, if_neg hz9]; exact congrArg _ (congrArg _ (congrArg iI hRs.1.2.2.2.2.1)), rfl, by rw [opRestore, if_pos ⟨hn, hz9⟩]; exact hB_16.fin hRs hO_17⟩
    · refine g_bipush X (z := -5) (by decide +kernel) dX5_restore_21 rfl ?_
      have hn : 0 ≤ k ∧ k ≤ 1 := by omega
      have hz8 : iz k = 0 := by omega
      exact g_iret X hret ⟨Nat.le_of_ble_eq_true rfl, Nat.le_of_ble_eq_true rfl⟩ dX5_restore_23 ⟨by rw [anRestore, if_pos hn, if_pos hz8], rfl, by rw [opRestore, if_neg (fun q => q.2 hz8)]; exact hB.fin hR hO⟩
  · refine g_bipush X (z := -2) (by decide +kernel) dX5_restore_9 rfl ?_
    have hn : ¬ (0 ≤ k ∧ k ≤ 1) := by omega
    exact g_iret X hret ⟨Nat.le_of_ble_eq_true rfl, Nat.le_of_ble_eq_true rfl⟩ dX5_restore_11 ⟨by rw [anRestore, if_neg hn], rfl, by rw [opRestore, if_neg (fun q => hn q.1)]; exact hB.fin hR hO⟩
