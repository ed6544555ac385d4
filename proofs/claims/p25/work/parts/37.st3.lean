/-! the class's store: a request, a cycle, all cycles, sums -/
set_option maxRecDepth 100000 in
set_option maxHeartbeats 4000000 in
theorem ct_X3_ask (l : Launch) (σ : Int → Nat) (c : Int → Int) (g : Int → Int) (i : Int) : Ct l yX3_ask cX3_ask 5 (some .int) 2 0 0 (fun ca av L M => av = [.ref (σ 0), .int (iI i)] ∧ isSt ca L M σ c ∧ Rel c g ∧ Inv g ∧ 0 ≤ i ∧ i < g 5) (fun ca av L M r L1 M1 => r = some (.int (iI (askR g i))) ∧ L = L1 ∧ ∃ c1, isSt ca L M1 σ c1 ∧ Rel c1 (askC g i) ∧ outS σ M M1) := by
  refine Ct_of (own := RX3) (by decide) rfl (by rintro _ _ _ _ ⟨rfl, _⟩; exact Nat.le_of_ble_eq_true rfl) ?_
  rintro p e s m args below meth cod D ca A av L M ⟨rfl, hs, hR, hI, hi0, hi1⟩ X hret hname
  refine g_lv (lv' := [(0, .ref (σ 0)), (1, .int (iI i))]) [0, 1] rfl ?_
  obtain ⟨⟨i00, i01⟩, ⟨i10, i11⟩, ⟨i20, i21⟩, ⟨i30, i31⟩, ⟨i40, i41⟩, i50, i51⟩ := id hI.1
  obtain ⟨⟨r00, r01⟩, ⟨r10, r11⟩, ⟨r20, r21⟩, ⟨r30, r31⟩, ⟨r40, r41⟩, r5⟩ := hI.2.2 i hi0 hi1
  obtain ⟨⟨e0, e1, e2, e3, e4, e5⟩, hRB, hRR⟩ := id hR
  have hq := hRR i hi0 hi1
  obtain ⟨q0, q1, q2, q3, q4, q5, q6, q7, q8⟩ := id hq
  have hnx := rel_next hq (hI.2.2 i hi0 hi1)
  obtain ⟨b, hb⟩ : ∃ x : Int, x = bkG g (g (70 + 10 * i + 4)) := ⟨_, rfl⟩
  have hbk := bkG_rng hI.1 (g (70 + 10 * i + 4))
  rw [← hb] at hbk
  have hcb := hRB b hbk.1 hbk.2.2
  have hib := hI.2.1 b hbk.1 hbk.2.2
  have hw_1 : M (σ (20 + i)) = .inr (4, [.int (iI (c (70 + 10 * i))), .int (iI (c (70 + 10 * i + 1))), .int (iI (c (70 + 10 * i + 2))), .int (iI (c (70 + 10 * i + 3))), .int (iI (c (70 + 10 * i + 4))), .int (iI (c (70 + 10 * i + 5))), .int (iI (c (70 + 10 * i + 6))), .int (iI (c (70 + 10 * i + 7)))]) := (hs.row (by omega) (by omega))
  refine g_aload_n X 0 rfl dX3_ask_0 rfl ?_
  refine g_get X cl_X3 1 (by decide) wf_X3_17 rfl (hs.mem (i := 0) (by decide) (by decide)) hs.obj rfl dX3_ask_1 rfl ?_
  refine g_iload_n X 1 rfl dX3_ask_4 rfl ?_
  refine g_aald X (t := 5) rfl (hs.mem (i := 2) (by decide) (by decide)) hs.strs ⟨by omega, by omega⟩ (by decide) (if_pos (by omega)) dX3_ask_5 rfl ?_
  refine g_astore_n X (lv' := [(2, .ref (σ (20 + i))), (0, .ref (σ 0)), (1, .int (iI i))]) (by decide) rfl dX3_ask_6 rfl ?_
  refine g_aload_n X 0 rfl dX3_ask_7 rfl ?_
  refine g_getN X cl_X4 3 (by decide) wf_X3_90 rfl (hs.mem (by omega) (by omega)) hw_1 rfl dX3_ask_8 rfl ?_
  refine g_if_ne X ⟨by omega, by omega⟩ (tgt := 16) dX3_ask_11 (by decide) rfl (fun h_2 => ?_) (fun h_2 => ?_)
  · refine g_aload_n X 0 rfl dX3_ask_16 rfl ?_
    refine g_callVN X (ct_X4_nextAddress l (σ (20 + i)) (fRow c i)) (host := "StrideBanks") (As := []) (rest := []) cl_X4 rfl ca_X4_nextAddress rfl wm_X3_93 wi_X4_nextAddress ws_X4_nextAddress wc_X4_nextAddress w0_X4 ⟨by decide, by decide⟩ (hs.mem (by omega) (by omega)) hw_1 (by decide) ⟨by decide, by decide⟩ rfl dX3_ask_17 rfl ⟨rfl, (hs.mem (by omega) (by omega)), (hw_1).trans (cRow_eq _ _), (show R32 (c (70 + 10 * i + 3)) from ⟨by omega, by omega⟩), (show R32 (c (70 + 10 * i + 2)) from ⟨by omega, by omega⟩), (show 0 ≤ c (70 + 10 * i + 4) + c (70 + 10 * i + 1) ∧ c (70 + 10 * i + 4) + c (70 + 10 * i + 1) < 2147483648 from ⟨by omega, by omega⟩)⟩ (fun r1 L1 M1 hq => ?_)
    obtain ⟨rfl, rfl, rfl⟩ := hq
    refine g_st (st' := [.int (iI (rwNext (fRow c i)))]) rfl ?_
    refine g_st (st' := [.int (iI (g (70 + 10 * i + 4)))]) (by rw [hnx]) ?_
    refine g_istore_n X (lv' := [(3, .int (iI (g (70 + 10 * i + 4)))), (2, .ref (σ (20 + i))), (0, .ref (σ 0)), (1, .int (iI i))]) (by decide) rfl dX3_ask_20 rfl ?_
    refine g_aload_n X 2 rfl dX3_ask_21 rfl ?_
    refine g_get X cl_X3 2 (by decide) wf_X3_23 rfl (hs.mem (i := 0) (by decide) (by decide)) hs.obj rfl dX3_ask_22 rfl ?_
    refine g_aload_n X 2 rfl dX3_ask_25 rfl ?_
    refine g_iload_n X 0 rfl dX3_ask_26 rfl ?_
    refine g_callV X (ct_X3_bankAt l σ c (g (70 + 10 * i + 4))) (As := [.int (iI (g (70 + 10 * i + 4)))]) (rest := [.ref (σ 3)]) cl_X3 rfl ca_X3_bankAt rfl wm_X3_96 wi_X3_bankAt ws_X3_bankAt wc_X3_bankAt w0_X3 ⟨by decide, by decide⟩ (hs.mem (i := 0) (by decide) (by decide)) hs.obj (Nat.le_of_ble_eq_true rfl) ⟨by decide, by decide⟩ rfl dX3_ask_27 rfl ⟨rfl, hs, ⟨by omega, by omega⟩, ⟨by omega, by omega⟩, by omega, by omega⟩ (fun r1 L1 M1 hq => ?_)
    obtain ⟨rfl, rfl, rfl⟩ := hq
    refine g_st (st' := [.int (iI (bkG c (g (70 + 10 * i + 4)))), .ref (σ 3)]) rfl ?_
    refine g_st (st' := [.int (iI b), .ref (σ 3)]) (by rw [bkG_eq e0 e2, ← hb]) ?_
    refine g_aald X (t := 3) rfl (hs.mem (i := 3) (by decide) (by decide)) hs.bks ⟨by omega, by omega⟩ (by decide) (if_pos (by omega)) dX3_ask_30 rfl ?_
    have hw_3 : M (σ (4 + b)) = .inr (0, [.int (iI (c (6 + 4 * b))), .int (iI (c (6 + 4 * b + 1))), .int (iI (c (6 + 4 * b + 2))), .int (iI (c (6 + 4 * b + 3)))]) := (hs.bank (by omega) (by omega))
    refine g_astore X (lv' := [(4, .ref (σ (4 + b))), (3, .int (iI (g (70 + 10 * i + 4)))), (2, .ref (σ (20 + i))), (0, .ref (σ 0)), (1, .int (iI i))]) (by decide) rfl dX3_ask_31 rfl ?_
    refine g_aload X 0 rfl dX3_ask_33 rfl ?_
    refine g_getN X cl_X0 0 (by decide) wf_X3_99 rfl (hs.mem (by omega) (by omega)) hw_3 rfl dX3_ask_35 rfl ?_
    refine g_aload_n X 3 rfl dX3_ask_38 rfl ?_
    refine g_get X cl_X3 4 (by decide) wf_X3_56 rfl (hs.mem (i := 0) (by decide) (by decide)) hs.obj rfl dX3_ask_39 rfl ?_
    refine g_icmp_le X ⟨by omega, by omega⟩ ⟨by omega, by omega⟩ (tgt := 91) dX3_ask_42 (by decide) rfl (fun h_4 => ?_) (fun h_4 => ?_)
    · refine g_aload X 0 rfl dX3_ask_91 rfl ?_
      refine g_aload_n X 3 rfl dX3_ask_93 rfl ?_
      refine g_get X cl_X3 4 (by decide) wf_X3_56 rfl (hs.mem (i := 0) (by decide) (by decide)) hs.obj rfl dX3_ask_94 rfl ?_
      refine g_aload_n X 3 rfl dX3_ask_97 rfl ?_
      refine g_get X cl_X3 0 (by decide) wf_X3_9 rfl (hs.mem (i := 0) (by decide) (by decide)) hs.obj rfl dX3_ask_98 rfl ?_
      refine g_iconst X (z := 1) dX3_ask_101 rfl ?_
      refine g_iald X (hs.mem (i := 1) (by decide) (by decide)) hs.set ⟨by decide, by decide⟩ (by decide) dX3_ask_102 rfl ?_
      refine g_iadd X dX3_ask_103 rfl ?_
      refine g_putN X cl_X0 0 (by decide) wf_X3_99 rfl (hs.mem (by omega) (by omega)) hw_3 rfl rfl rfl (Nat.le_of_ble_eq_true rfl) (fs' := [.int (iI (c 4 + c 1)), .int (iI (c (6 + 4 * b + 1))), .int (iI (c (6 + 4 * b + 2))), .int (iI (c (6 + 4 * b + 3)))]) rfl dX3_ask_104 rfl (fun M_5 hM_6 fr_7 => ?_)
      have hM_8 : M_5 (σ 0) = .inr (3, [.ref (σ 1), .ref (σ 2), .ref (σ 3), .int (iI (c 5)), .int (iI (c 4))]) := (fr_7 (σ 0) (hs.ne (i := 0) (j := (4 + b)) (by omega) (by omega) (by omega) (by omega) (by omega))).trans hs.obj
      have hM_9 : M_5 (σ 1) = cI ca 4 c := (fr_7 (σ 1) (hs.ne (i := 1) (j := (4 + b)) (by omega) (by omega) (by omega) (by omega) (by omega))).trans hs.set
      have hM_10 : M_5 (σ 2) = cR ca 5 4 (fun j => if j < 4 then some (σ (20 + j)) else none) := (fr_7 (σ 2) (hs.ne (i := 2) (j := (4 + b)) (by omega) (by omega) (by omega) (by omega) (by omega))).trans hs.strs
      have hM_11 : M_5 (σ 3) = cR ca 3 16 (fun j => if j < 16 then some (σ (4 + j)) else none) := (fr_7 (σ 3) (hs.ne (i := 3) (j := (4 + b)) (by omega) (by omega) (by omega) (by omega) (by omega))).trans hs.bks
      have hM_12 : M_5 (σ (20 + i)) = .inr (4, [.int (iI (c (70 + 10 * i))), .int (iI (c (70 + 10 * i + 1))), .int (iI (c (70 + 10 * i + 2))), .int (iI (c (70 + 10 * i + 3))), .int (iI (c (70 + 10 * i + 4))), .int (iI (c (70 + 10 * i + 5))), .int (iI (c (70 + 10 * i + 6))), .int (iI (c (70 + 10 * i + 7)))]) := (fr_7 (σ (20 + i)) (hs.ne (i := (20 + i)) (j := (4 + b)) (by omega) (by omega) (by omega) (by omega) (by omega))).trans hw_1
      refine g_aload X 0 rfl dX3_ask_107 rfl ?_
      refine g_iload_n X 4 rfl dX3_ask_109 rfl ?_
      refine g_putN X cl_X0 1 (by decide) wf_X3_76 rfl (hs.mem (by omega) (by omega)) hM_6 rfl rfl rfl (Nat.le_of_ble_eq_true rfl) (fs' := [.int (iI (c 4 + c 1)), .int (iI i), .int (iI (c (6 + 4 * b + 2))), .int (iI (c (6 + 4 * b + 3)))]) rfl dX3_ask_110 rfl (fun M_13 hM_14 fr_15 => ?_)
      have hM_16 : M_13 (σ 0) = .inr (3, [.ref (σ 1), .ref (σ 2), .ref (σ 3), .int (iI (c 5)), .int (iI (c 4))]) := (fr_15 (σ 0) (hs.ne (i := 0) (j := (4 + b)) (by omega) (by omega) (by omega) (by omega) (by omega))).trans hM_8
      have hM_17 : M_13 (σ 1) = cI ca 4 c := (fr_15 (σ 1) (hs.ne (i := 1) (j := (4 + b)) (by omega) (by omega) (by omega) (by omega) (by omega))).trans hM_9
      have hM_18 : M_13 (σ 2) = cR ca 5 4 (fun j => if j < 4 then some (σ (20 + j)) else none) := (fr_15 (σ 2) (hs.ne (i := 2) (j := (4 + b)) (by omega) (by omega) (by omega) (by omega) (by omega))).trans hM_10
      have hM_19 : M_13 (σ 3) = cR ca 3 16 (fun j => if j < 16 then some (σ (4 + j)) else none) := (fr_15 (σ 3) (hs.ne (i := 3) (j := (4 + b)) (by omega) (by omega) (by omega) (by omega) (by omega))).trans hM_11
      have hM_20 : M_13 (σ (20 + i)) = .inr (4, [.int (iI (c (70 + 10 * i))), .int (iI (c (70 + 10 * i + 1))), .int (iI (c (70 + 10 * i + 2))), .int (iI (c (70 + 10 * i + 3))), .int (iI (c (70 + 10 * i + 4))), .int (iI (c (70 + 10 * i + 5))), .int (iI (c (70 + 10 * i + 6))), .int (iI (c (70 + 10 * i + 7)))]) := (fr_15 (σ (20 + i)) (hs.ne (i := (20 + i)) (j := (4 + b)) (by omega) (by omega) (by omega) (by omega) (by omega))).trans hM_12
      refine g_aload X 0 rfl dX3_ask_113 rfl ?_
      refine g_dup X rfl dX3_ask_115 rfl ?_
      refine g_getN X cl_X0 2 (by decide) wf_X3_109 rfl (hs.mem (by omega) (by omega)) hM_14 rfl dX3_ask_116 rfl ?_
      refine g_iconst X (z := 1) dX3_ask_119 rfl ?_
      refine g_iadd X dX3_ask_120 rfl ?_
      refine g_putN X cl_X0 2 (by decide) wf_X3_109 rfl (hs.mem (by omega) (by omega)) hM_14 rfl rfl rfl (Nat.le_of_ble_eq_true rfl) (fs' := [.int (iI (c 4 + c 1)), .int (iI i), .int (iI (c (6 + 4 * b + 2) + 1)), .int (iI (c (6 + 4 * b + 3)))]) rfl dX3_ask_121 rfl (fun M_21 hM_22 fr_23 => ?_)
      have hM_24 : M_21 (σ 0) = .inr (3, [.ref (σ 1), .ref (σ 2), .ref (σ 3), .int (iI (c 5)), .int (iI (c 4))]) := (fr_23 (σ 0) (hs.ne (i := 0) (j := (4 + b)) (by omega) (by omega) (by omega) (by omega) (by omega))).trans hM_16
      have hM_25 : M_21 (σ 1) = cI ca 4 c := (fr_23 (σ 1) (hs.ne (i := 1) (j := (4 + b)) (by omega) (by omega) (by omega) (by omega) (by omega))).trans hM_17
      have hM_26 : M_21 (σ 2) = cR ca 5 4 (fun j => if j < 4 then some (σ (20 + j)) else none) := (fr_23 (σ 2) (hs.ne (i := 2) (j := (4 + b)) (by omega) (by omega) (by omega) (by omega) (by omega))).trans hM_18
      have hM_27 : M_21 (σ 3) = cR ca 3 16 (fun j => if j < 16 then some (σ (4 + j)) else none) := (fr_23 (σ 3) (hs.ne (i := 3) (j := (4 + b)) (by omega) (by omega) (by omega) (by omega) (by omega))).trans hM_19
      have hM_28 : M_21 (σ (20 + i)) = .inr (4, [.int (iI (c (70 + 10 * i))), .int (iI (c (70 + 10 * i + 1))), .int (iI (c (70 + 10 * i + 2))), .int (iI (c (70 + 10 * i + 3))), .int (iI (c (70 + 10 * i + 4))), .int (iI (c (70 + 10 * i + 5))), .int (iI (c (70 + 10 * i + 6))), .int (iI (c (70 + 10 * i + 7)))]) := (fr_23 (σ (20 + i)) (hs.ne (i := (20 + i)) (j := (4 + b)) (by omega) (by omega) (by omega) (by omega) (by omega))).trans hM_20
      refine g_aload_n X 2 rfl dX3_ask_124 rfl ?_
      refine g_iload_n X 1 rfl dX3_ask_125 rfl ?_
      refine g_aload_n X 3 rfl dX3_ask_126 rfl ?_
      refine g_get X cl_X3 4 (by decide) wf_X3_56 rfl (hs.mem (i := 0) (by decide) (by decide)) hM_24 rfl dX3_ask_127 rfl ?_
      refine g_callVN X (ct_X4_finishRequest l (σ (20 + i)) (fRow c i) (g (70 + 10 * i + 4)) (c 4)) (host := "StrideBanks") (As := [.int (iI (g (70 + 10 * i + 4))), .int (iI (c 4))]) (rest := []) cl_X4 rfl ca_X4_finishRequest rfl wm_X3_112 wi_X4_finishRequest ws_X4_finishRequest wc_X4_finishRequest w0_X4 ⟨by decide, by decide⟩ (hs.mem (by omega) (by omega)) hM_28 (by decide) ⟨by decide, by decide⟩ rfl dX3_ask_130 rfl ⟨rfl, (hs.mem (by omega) (by omega)), (hM_28).trans (cRow_eq _ _), (show R32 (c (70 + 10 * i + 3) - 1) from ⟨by omega, by omega⟩)⟩ (fun r1 L1 M_29 hq => ?_)
      obtain ⟨rfl, rfl, hM_30, fr_31⟩ := hq
      have hM_32 : M_29 (σ 0) = .inr (3, [.ref (σ 1), .ref (σ 2), .ref (σ 3), .int (iI (c 5)), .int (iI (c 4))]) := (fr_31 (σ 0) (hs.ne (i := 0) (j := (20 + i)) (by omega) (by omega) (by omega) (by omega) (by omega))).trans hM_24
      have hM_33 : M_29 (σ 1) = cI ca 4 c := (fr_31 (σ 1) (hs.ne (i := 1) (j := (20 + i)) (by omega) (by omega) (by omega) (by omega) (by omega))).trans hM_25
      have hM_34 : M_29 (σ 2) = cR ca 5 4 (fun j => if j < 4 then some (σ (20 + j)) else none) := (fr_31 (σ 2) (hs.ne (i := 2) (j := (20 + i)) (by omega) (by omega) (by omega) (by omega) (by omega))).trans hM_26
      have hM_35 : M_29 (σ 3) = cR ca 3 16 (fun j => if j < 16 then some (σ (4 + j)) else none) := (fr_31 (σ 3) (hs.ne (i := 3) (j := (20 + i)) (by omega) (by omega) (by omega) (by omega) (by omega))).trans hM_27
      have hM_36 : M_29 (σ (4 + b)) = .inr (0, [.int (iI (c 4 + c 1)), .int (iI i), .int (iI (c (6 + 4 * b + 2) + 1)), .int (iI (c (6 + 4 * b + 3)))]) := (fr_31 (σ (4 + b)) (hs.ne (i := (4 + b)) (j := (20 + i)) (by omega) (by omega) (by omega) (by omega) (by omega))).trans hM_22
      refine g_st (st' := []) rfl ?_
      refine g_iconst X (z := 1) dX3_ask_133 rfl ?_
      obtain ⟨hz1, hz2⟩ := rel_done hR hI hi0 hi1 (by omega) hb (by omega)
      exact g_iret X hret ⟨Nat.le_of_ble_eq_true rfl, Nat.le_of_ble_eq_true rfl⟩ dX3_ask_134 ⟨by rw [hz1], rfl, _, hs.toRB hi0 (by omega) hbk.1 hbk.2.2 hM_30 hM_36 (fun x hr1 hb1 => ((fr_31 x hr1).trans ((fr_23 x hb1).trans ((fr_15 x hb1).trans (fr_7 x hb1))))), hz2, ((((outS.one (σ := σ) (i := (4 + b)) (by omega) (by omega) fr_7).trans (outS.one (σ := σ) (i := (4 + b)) (by omega) (by omega) fr_15)).trans (outS.one (σ := σ) (i := (4 + b)) (by omega) (by omega) fr_23)).trans (outS.one (σ := σ) (i := (20 + i)) (by omega) (by omega) fr_31))⟩
    · refine g_aload X 0 rfl dX3_ask_45 rfl ?_
      refine g_dup X rfl dX3_ask_47 rfl ?_
      refine g_getN X cl_X0 3 (by decide) wf_X3_102 rfl (hs.mem (by omega) (by omega)) hw_3 rfl dX3_ask_48 rfl ?_
      refine g_iconst X (z := 1) dX3_ask_51 rfl ?_
      refine g_iadd X dX3_ask_52 rfl ?_
      refine g_putN X cl_X0 3 (by decide) wf_X3_102 rfl (hs.mem (by omega) (by omega)) hw_3 rfl rfl rfl (Nat.le_of_ble_eq_true rfl) (fs' := [.int (iI (c (6 + 4 * b))), .int (iI (c (6 + 4 * b + 1))), .int (iI (c (6 + 4 * b + 2))), .int (iI (c (6 + 4 * b + 3) + 1))]) rfl dX3_ask_53 rfl (fun M_37 hM_38 fr_39 => ?_)
      have hM_40 : M_37 (σ 0) = .inr (3, [.ref (σ 1), .ref (σ 2), .ref (σ 3), .int (iI (c 5)), .int (iI (c 4))]) := (fr_39 (σ 0) (hs.ne (i := 0) (j := (4 + b)) (by omega) (by omega) (by omega) (by omega) (by omega))).trans hs.obj
      have hM_41 : M_37 (σ 1) = cI ca 4 c := (fr_39 (σ 1) (hs.ne (i := 1) (j := (4 + b)) (by omega) (by omega) (by omega) (by omega) (by omega))).trans hs.set
      have hM_42 : M_37 (σ 2) = cR ca 5 4 (fun j => if j < 4 then some (σ (20 + j)) else none) := (fr_39 (σ 2) (hs.ne (i := 2) (j := (4 + b)) (by omega) (by omega) (by omega) (by omega) (by omega))).trans hs.strs
      have hM_43 : M_37 (σ 3) = cR ca 3 16 (fun j => if j < 16 then some (σ (4 + j)) else none) := (fr_39 (σ 3) (hs.ne (i := 3) (j := (4 + b)) (by omega) (by omega) (by omega) (by omega) (by omega))).trans hs.bks
      have hM_44 : M_37 (σ (20 + i)) = .inr (4, [.int (iI (c (70 + 10 * i))), .int (iI (c (70 + 10 * i + 1))), .int (iI (c (70 + 10 * i + 2))), .int (iI (c (70 + 10 * i + 3))), .int (iI (c (70 + 10 * i + 4))), .int (iI (c (70 + 10 * i + 5))), .int (iI (c (70 + 10 * i + 6))), .int (iI (c (70 + 10 * i + 7)))]) := (fr_39 (σ (20 + i)) (hs.ne (i := (20 + i)) (j := (4 + b)) (by omega) (by omega) (by omega) (by omega) (by omega))).trans hw_1
      refine g_aload_n X 2 rfl dX3_ask_56 rfl ?_
      refine g_dup X rfl dX3_ask_57 rfl ?_
      refine g_getN X cl_X4 5 (by decide) wf_X3_105 rfl (hs.mem (by omega) (by omega)) hM_44 rfl dX3_ask_58 rfl ?_
      refine g_iconst X (z := 1) dX3_ask_61 rfl ?_
      refine g_iadd X dX3_ask_62 rfl ?_
      refine g_putN X cl_X4 5 (by decide) wf_X3_105 rfl (hs.mem (by omega) (by omega)) hM_44 rfl rfl rfl (Nat.le_of_ble_eq_true rfl) (fs' := [.int (iI (c (70 + 10 * i))), .int (iI (c (70 + 10 * i + 1))), .int (iI (c (70 + 10 * i + 2))), .int (iI (c (70 + 10 * i + 3))), .int (iI (c (70 + 10 * i + 4))), .int (iI (c (70 + 10 * i + 5) + 1)), .int (iI (c (70 + 10 * i + 6))), .int (iI (c (70 + 10 * i + 7)))]) rfl dX3_ask_63 rfl (fun M_45 hM_46 fr_47 => ?_)
      have hM_48 : M_45 (σ 0) = .inr (3, [.ref (σ 1), .ref (σ 2), .ref (σ 3), .int (iI (c 5)), .int (iI (c 4))]) := (fr_47 (σ 0) (hs.ne (i := 0) (j := (20 + i)) (by omega) (by omega) (by omega) (by omega) (by omega))).trans hM_40
      have hM_49 : M_45 (σ 1) = cI ca 4 c := (fr_47 (σ 1) (hs.ne (i := 1) (j := (20 + i)) (by omega) (by omega) (by omega) (by omega) (by omega))).trans hM_41
      have hM_50 : M_45 (σ 2) = cR ca 5 4 (fun j => if j < 4 then some (σ (20 + j)) else none) := (fr_47 (σ 2) (hs.ne (i := 2) (j := (20 + i)) (by omega) (by omega) (by omega) (by omega) (by omega))).trans hM_42
      have hM_51 : M_45 (σ 3) = cR ca 3 16 (fun j => if j < 16 then some (σ (4 + j)) else none) := (fr_47 (σ 3) (hs.ne (i := 3) (j := (20 + i)) (by omega) (by omega) (by omega) (by omega) (by omega))).trans hM_43
      have hM_52 : M_45 (σ (4 + b)) = .inr (0, [.int (iI (c (6 + 4 * b))), .int (iI (c (6 + 4 * b + 1))), .int (iI (c (6 + 4 * b + 2))), .int (iI (c (6 + 4 * b + 3) + 1))]) := (fr_47 (σ (4 + b)) (hs.ne (i := (4 + b)) (j := (20 + i)) (by omega) (by omega) (by omega) (by omega) (by omega))).trans hM_38
      refine g_aload_n X 2 rfl dX3_ask_66 rfl ?_
      refine g_dup X rfl dX3_ask_67 rfl ?_
      refine g_getN X cl_X4 6 (by decide) wf_X3_106 rfl (hs.mem (by omega) (by omega)) hM_46 rfl dX3_ask_68 rfl ?_
      refine g_aload X 0 rfl dX3_ask_71 rfl ?_
      refine g_getN X cl_X0 1 (by decide) wf_X3_76 rfl (hs.mem (by omega) (by omega)) hM_52 rfl dX3_ask_73 rfl ?_
      refine g_iload_n X 4 rfl dX3_ask_76 rfl ?_
      refine g_icmp_ne X ⟨by omega, by omega⟩ ⟨by omega, by omega⟩ (tgt := 84) dX3_ask_77 (by decide) rfl (fun h_53 => ?_) (fun h_53 => ?_)
      · refine g_iconst X (z := 1) dX3_ask_84 rfl ?_
        refine g_iadd X dX3_ask_85 rfl ?_
        refine g_putN X cl_X4 6 (by decide) wf_X3_106 rfl (hs.mem (by omega) (by omega)) hM_46 rfl rfl rfl (Nat.le_of_ble_eq_true rfl) (fs' := [.int (iI (c (70 + 10 * i))), .int (iI (c (70 + 10 * i + 1))), .int (iI (c (70 + 10 * i + 2))), .int (iI (c (70 + 10 * i + 3))), .int (iI (c (70 + 10 * i + 4))), .int (iI (c (70 + 10 * i + 5) + 1)), .int (iI (c (70 + 10 * i + 6) + 1)), .int (iI (c (70 + 10 * i + 7)))]) rfl dX3_ask_86 rfl (fun M_54 hM_55 fr_56 => ?_)
        have hM_57 : M_54 (σ 0) = .inr (3, [.ref (σ 1), .ref (σ 2), .ref (σ 3), .int (iI (c 5)), .int (iI (c 4))]) := (fr_56 (σ 0) (hs.ne (i := 0) (j := (20 + i)) (by omega) (by omega) (by omega) (by omega) (by omega))).trans hM_48
        have hM_58 : M_54 (σ 1) = cI ca 4 c := (fr_56 (σ 1) (hs.ne (i := 1) (j := (20 + i)) (by omega) (by omega) (by omega) (by omega) (by omega))).trans hM_49
        have hM_59 : M_54 (σ 2) = cR ca 5 4 (fun j => if j < 4 then some (σ (20 + j)) else none) := (fr_56 (σ 2) (hs.ne (i := 2) (j := (20 + i)) (by omega) (by omega) (by omega) (by omega) (by omega))).trans hM_50
        have hM_60 : M_54 (σ 3) = cR ca 3 16 (fun j => if j < 16 then some (σ (4 + j)) else none) := (fr_56 (σ 3) (hs.ne (i := 3) (j := (20 + i)) (by omega) (by omega) (by omega) (by omega) (by omega))).trans hM_51
        have hM_61 : M_54 (σ (4 + b)) = .inr (0, [.int (iI (c (6 + 4 * b))), .int (iI (c (6 + 4 * b + 1))), .int (iI (c (6 + 4 * b + 2))), .int (iI (c (6 + 4 * b + 3) + 1))]) := (fr_56 (σ (4 + b)) (hs.ne (i := (4 + b)) (j := (20 + i)) (by omega) (by omega) (by omega) (by omega) (by omega))).trans hM_52
        refine g_iconst X (z := 0) dX3_ask_89 rfl ?_
        obtain ⟨hz1, hz2⟩ := rel_stall hR hI hi0 hi1 (by omega) hb (by omega) (d := 1) (by rw [if_neg (by have := hcb.2.2.2.1 (by omega); omega)])
        exact g_iret X hret ⟨Nat.le_of_ble_eq_true rfl, Nat.le_of_ble_eq_true rfl⟩ dX3_ask_90 ⟨by rw [hz1], rfl, _, hs.toRB hi0 (by omega) hbk.1 hbk.2.2 (hM_55.trans (oRow_eq rfl rfl rfl rfl rfl rfl (by show _ = c (70 + 10 * i + 6) + 1; omega) rfl)) hM_61 (fun x hr1 hb1 => ((fr_56 x hr1).trans ((fr_47 x hr1).trans (fr_39 x hb1)))), hz2, (((outS.one (σ := σ) (i := (4 + b)) (by omega) (by omega) fr_39).trans (outS.one (σ := σ) (i := (20 + i)) (by omega) (by omega) fr_47)).trans (outS.one (σ := σ) (i := (20 + i)) (by omega) (by omega) fr_56))⟩
      · refine g_iconst X (z := 0) dX3_ask_80 rfl ?_
        refine g_goto X (n := 85) dX3_ask_81 (by decide) ?_
        refine g_iadd X dX3_ask_85 rfl ?_
        refine g_st (st' := [.int (iI (c (70 + 10 * i + 6))), .ref (σ (20 + i))]) (by rw [Int.add_zero]) ?_
        refine g_putN X cl_X4 6 (by decide) wf_X3_106 rfl (hs.mem (by omega) (by omega)) hM_46 rfl rfl rfl (Nat.le_of_ble_eq_true rfl) (fs' := [.int (iI (c (70 + 10 * i))), .int (iI (c (70 + 10 * i + 1))), .int (iI (c (70 + 10 * i + 2))), .int (iI (c (70 + 10 * i + 3))), .int (iI (c (70 + 10 * i + 4))), .int (iI (c (70 + 10 * i + 5) + 1)), .int (iI (c (70 + 10 * i + 6))), .int (iI (c (70 + 10 * i + 7)))]) rfl dX3_ask_86 rfl (fun M_62 hM_63 fr_64 => ?_)
        have hM_65 : M_62 (σ 0) = .inr (3, [.ref (σ 1), .ref (σ 2), .ref (σ 3), .int (iI (c 5)), .int (iI (c 4))]) := (fr_64 (σ 0) (hs.ne (i := 0) (j := (20 + i)) (by omega) (by omega) (by omega) (by omega) (by omega))).trans hM_48
        have hM_66 : M_62 (σ 1) = cI ca 4 c := (fr_64 (σ 1) (hs.ne (i := 1) (j := (20 + i)) (by omega) (by omega) (by omega) (by omega) (by omega))).trans hM_49
        have hM_67 : M_62 (σ 2) = cR ca 5 4 (fun j => if j < 4 then some (σ (20 + j)) else none) := (fr_64 (σ 2) (hs.ne (i := 2) (j := (20 + i)) (by omega) (by omega) (by omega) (by omega) (by omega))).trans hM_50
        have hM_68 : M_62 (σ 3) = cR ca 3 16 (fun j => if j < 16 then some (σ (4 + j)) else none) := (fr_64 (σ 3) (hs.ne (i := 3) (j := (20 + i)) (by omega) (by omega) (by omega) (by omega) (by omega))).trans hM_51
        have hM_69 : M_62 (σ (4 + b)) = .inr (0, [.int (iI (c (6 + 4 * b))), .int (iI (c (6 + 4 * b + 1))), .int (iI (c (6 + 4 * b + 2))), .int (iI (c (6 + 4 * b + 3) + 1))]) := (fr_64 (σ (4 + b)) (hs.ne (i := (4 + b)) (j := (20 + i)) (by omega) (by omega) (by omega) (by omega) (by omega))).trans hM_52
        refine g_iconst X (z := 0) dX3_ask_89 rfl ?_
        obtain ⟨hz1, hz2⟩ := rel_stall hR hI hi0 hi1 (by omega) hb (by omega) (d := 0) (by rw [if_pos (by have := hcb.2.2.2.1 (by omega); omega)])
        exact g_iret X hret ⟨Nat.le_of_ble_eq_true rfl, Nat.le_of_ble_eq_true rfl⟩ dX3_ask_90 ⟨by rw [hz1], rfl, _, hs.toRB hi0 (by omega) hbk.1 hbk.2.2 (hM_63.trans (oRow_eq rfl rfl rfl rfl rfl rfl (by show _ = c (70 + 10 * i + 6) + 0; omega) rfl)) hM_69 (fun x hr1 hb1 => ((fr_64 x hr1).trans ((fr_47 x hr1).trans (fr_39 x hb1)))), hz2, (((outS.one (σ := σ) (i := (4 + b)) (by omega) (by omega) fr_39).trans (outS.one (σ := σ) (i := (20 + i)) (by omega) (by omega) fr_47)).trans (outS.one (σ := σ) (i := (20 + i)) (by omega) (by omega) fr_64))⟩
  · refine g_iconst X (z := 0) dX3_ask_14 rfl ?_
    exact g_iret X hret ⟨Nat.le_of_ble_eq_true rfl, Nat.le_of_ble_eq_true rfl⟩ dX3_ask_15 ⟨by rw [askR, if_neg (by omega)], rfl, c, hs, by rw [askC, if_neg (by omega)]; exact hR, outS.refl _ _⟩
theorem Rel.cyc {f h : Int → Int} (hR : Rel f h) {v w : Int} (e : v = w) : Rel (up f 4 v) (up h 4 w) := by
  subst e
  obtain ⟨⟨e0, e1, e2, e3, e4, e5⟩, hB, hQ⟩ := hR
  refine ⟨⟨?_, ?_, ?_, ?_, ?_, ?_⟩, fun b b0 b1 => ?_, fun i i0 i1 => ?_⟩
  · rw [up_ne _ _ (by decide), up_ne _ _ (by decide)]; exact e0
  · rw [up_ne _ _ (by decide), up_ne _ _ (by decide)]; exact e1
  · rw [up_ne _ _ (by decide), up_ne _ _ (by decide)]; exact e2
  · rw [up_ne _ _ (by decide), up_ne _ _ (by decide)]; exact e3
  · rw [up_eq, up_eq]
  · rw [up_ne _ _ (by decide), up_ne _ _ (by decide)]; exact e5
  · rw [up_ne _ _ (by omega), up_ne _ _ (by omega), up_ne _ _ (by omega), up_ne _ _ (by omega), up_ne _ _ (by omega), up_ne _ _ (by omega), up_ne _ _ (by omega), up_ne _ _ (by omega)]
    exact hB b b0 b1
  · rw [up_ne _ _ (by decide)] at i1
    exact (hQ i i0 i1).of (fun k k0 k1 => up_ne _ _ (by omega)) (fun k k0 k1 => up_ne _ _ (by omega))
set_option maxRecDepth 100000 in
set_option maxHeartbeats 4000000 in
theorem ct_X3_passCycle (l : Launch) (σ : Int → Nat) (c : Int → Int) (g : Int → Int) : Ct l yX3_passCycle cX3_passCycle 4 (some .int) 3 0 0 (fun ca av L M => av = [.ref (σ 0)] ∧ isSt ca L M σ c ∧ Rel c g ∧ Inv g ∧ g 4 < 1000000) (fun ca av L M r L1 M1 => r = some (.int (iI (cycR g))) ∧ L = L1 ∧ ∃ c1, isSt ca L M1 σ c1 ∧ Rel c1 (cycG g) ∧ outS σ M M1) := by
  refine Ct_of (own := RX3) (by decide) rfl (by rintro _ _ _ _ ⟨rfl, _⟩; exact Nat.le_of_ble_eq_true rfl) ?_
  rintro p e s m args below meth cod D ca A av L M ⟨rfl, hs, hR, hI, h4⟩ X hret hname
  refine g_lv (lv' := [(0, .ref (σ 0))]) [0] rfl ?_
  generalize hQ : MQ below _ args s _ _ A = Q
  obtain ⟨⟨i00, i01⟩, ⟨i10, i11⟩, ⟨i20, i21⟩, ⟨i30, i31⟩, ⟨i40, i41⟩, i50, i51⟩ := id hI.1
  obtain ⟨⟨e0, e1, e2, e3, e4, e5⟩, hRB, hRR⟩ := id hR
  have hF0 := fstG_rng hI.1
  have lp2 : ∀ (n : Nat) (k : Nat) (z F y : Int) (M1 : Mem) (f h : Int → Int) (hF : F = fstG g) (hy : (k : Int) = g 5 - F + y) (hy2 : 0 ≤ y ∧ y ≤ F) (hh : h = (cycF g F (g 5) k).1) (hz : z = (cycF g F (g 5) k).2) (hs1 : isSt ca L M1 σ f) (hR1 : Rel f h) (hfr : outS σ M M1) (hm : F - y < (n : Int)), G p l e (Rm 3 0 0) s m args below meth cod D A 4 Q 0 0 L M1 59 [(0, .ref (σ 0)), (1, .int (iI z)), (2, .int (iI F)), (3, .int (iI y))] [] := by
    intro n
    induction n with
    | zero =>
      intro k z F y M1 f h hF hy hy2 hh hz hs1 hR1 hfr hm
      exfalso; omega
    | succ n ih =>
      intro k z F y M1 f h hF hy hy2 hh hz hs1 hR1 hfr hm
      have hk5 : k = 0 ∨ 0 < g 5 := by omega
      obtain ⟨a1, a2, a3, a4, a5⟩ := cycF_ok hI (first := F) (by omega) k hk5
      have hI1 : Inv h := by rw [hh]; exact a1
      have h5 : h 5 = g 5 := by rw [hh]; exact a2 5 (by decide)
      have f5 : f 5 = g 5 := hR1.1.2.2.2.2.2.trans h5
      have h4e : h 4 = g 4 := by rw [hh]; exact a2 4 (by decide)
      have f4 : f 4 = g 4 := hR1.1.2.2.2.2.1.trans h4e
      refine g_iload_n X 3 rfl dX3_passCycle_59 rfl ?_
      refine g_iload_n X 2 rfl dX3_passCycle_60 rfl ?_
      refine g_icmp_ge X ⟨by omega, by omega⟩ ⟨by omega, by omega⟩ (tgt := 78) dX3_passCycle_61 (by decide) rfl (fun h_1 => ?_) (fun h_1 => ?_)
      · refine g_aload_n X 0 rfl dX3_passCycle_78 rfl ?_
        refine g_dup X rfl dX3_passCycle_79 rfl ?_
        refine g_get X cl_X3 4 (by decide) wf_X3_56 rfl (hs1.mem (i := 0) (by decide) (by decide)) hs1.obj rfl dX3_passCycle_80 rfl ?_
        refine g_iconst X (z := 1) dX3_passCycle_83 rfl ?_
        refine g_iadd X dX3_passCycle_84 rfl ?_
        refine g_put X cl_X3 4 (by decide) wf_X3_56 rfl (hs1.mem (i := 0) (by decide) (by decide)) hs1.obj rfl rfl rfl (Nat.le_of_ble_eq_true rfl) (fs' := [.ref (σ 1), .ref (σ 2), .ref (σ 3), .int (iI (f 5)), .int (iI (f 4 + 1))]) rfl dX3_passCycle_85 rfl (fun M_2 hM_3 fr_4 => ?_)
        have hM_5 : M_2 (σ 1) = cI ca 4 f := (fr_4 (σ 1) (hs1.ne (i := 1) (j := 0) (by omega) (by omega) (by omega) (by omega) (by omega))).trans hs1.set
        have hM_6 : M_2 (σ 2) = cR ca 5 4 (fun j => if j < 4 then some (σ (20 + j)) else none) := (fr_4 (σ 2) (hs1.ne (i := 2) (j := 0) (by omega) (by omega) (by omega) (by omega) (by omega))).trans hs1.strs
        have hM_7 : M_2 (σ 3) = cR ca 3 16 (fun j => if j < 16 then some (σ (4 + j)) else none) := (fr_4 (σ 3) (hs1.ne (i := 3) (j := 0) (by omega) (by omega) (by omega) (by omega) (by omega))).trans hs1.bks
        obtain ⟨c_9, hc_10⟩ : ∃ x : Int → Int, x = up f 4 (f 4 + 1) := ⟨_, rfl⟩
        have hs_8 : isSt ca L M_2 (σ) c_9 := by rw [hc_10]; exact hs1.putObj (c' := up f 4 (f 4 + 1)) hM_3 fr_4 (fun k h4 h5 => up_ne _ _ h4)
        refine g_iload_n X 1 rfl dX3_passCycle_88 rfl ?_
        subst hQ
        have hkk : (g 5).toNat = k := by omega
        exact g_iret X hret ⟨Nat.le_of_ble_eq_true rfl, Nat.le_of_ble_eq_true rfl⟩ dX3_passCycle_89 ⟨by rw [hz, cycR, hF, hkk], rfl, _, hs_8, by rw [hc_10, cycG, hkk, ← hF, ← hh]; exact hR1.cyc (by omega), (hfr.trans (outS.one (σ := σ) (i := 0) (by omega) (by omega) fr_4))⟩
      · refine g_iload_n X 1 rfl dX3_passCycle_64 rfl ?_
        refine g_aload_n X 0 rfl dX3_passCycle_65 rfl ?_
        refine g_iload_n X 3 rfl dX3_passCycle_66 rfl ?_
        refine g_callV X (ct_X3_ask l σ f h y) (As := [.int (iI y)]) (rest := [.int (iI z)]) cl_X3 rfl ca_X3_ask rfl wm_X3_86 wi_X3_ask ws_X3_ask wc_X3_ask w0_X3 ⟨by decide, by decide⟩ (hs1.mem (i := 0) (by decide) (by decide)) hs1.obj (Nat.le_of_ble_eq_true rfl) ⟨by decide, by decide⟩ rfl dX3_passCycle_67 rfl ⟨rfl, hs1, hR1, hI1, by omega, by omega⟩ (fun r1 L1 M_11 hq => ?_)
        obtain ⟨rfl, rfl, c_14, hs_12, hR_13, fr_15⟩ := hq
        refine g_st (st' := [.int (iI (askR h y)), .int (iI z)]) rfl ?_
        refine g_iadd X dX3_passCycle_70 rfl ?_
        refine g_istore_n X (lv' := [(1, .int (iI (z + askR h y))), (0, .ref (σ 0)), (2, .int (iI F)), (3, .int (iI y))]) (by decide) rfl dX3_passCycle_71 rfl ?_
        refine g_iinc X (lv' := [(3, .int (iI (y + 1))), (1, .int (iI (z + askR h y))), (0, .ref (σ 0)), (2, .int (iI F))]) 3 rfl (by decide) rfl dX3_passCycle_72 rfl ?_
        refine g_goto X (n := 59) dX3_passCycle_75 (by decide) ?_
        refine g_lv (lv' := [(0, .ref (σ 0)), (1, .int (iI (z + askR h y))), (2, .int (iI F)), (3, .int (iI (y + 1)))]) [2, 1, 3, 0] rfl ?_
        exact ih (k + 1) _ _ _ _ _ _ hF (by omega) (by omega) (by simp only [cycF]; rw [← hh, show (F + (k : Int)) % g 5 = y from (by rw [show F + (k : Int) = y + g 5 from by omega, Int.add_emod_right, Int.emod_eq_of_lt (by omega) (by omega)])]) (by simp only [cycF]; rw [← hz, ← hh, show (F + (k : Int)) % g 5 = y from (by rw [show F + (k : Int) = y + g 5 from by omega, Int.add_emod_right, Int.emod_eq_of_lt (by omega) (by omega)])]) hs_12 hR_13 (hfr.trans fr_15) (by omega)
  have lp1 : ∀ (n : Nat) (k : Nat) (z F y : Int) (M1 : Mem) (f h : Int → Int) (hF : F = fstG g) (hy : y = F + k) (hy2 : y ≤ g 5) (hh : h = (cycF g F (g 5) k).1) (hz : z = (cycF g F (g 5) k).2) (hs1 : isSt ca L M1 σ f) (hR1 : Rel f h) (hfr : outS σ M M1) (hm : g 5 - y < (n : Int)), G p l e (Rm 3 0 0) s m args below meth cod D A 4 Q 0 0 L M1 35 [(0, .ref (σ 0)), (1, .int (iI z)), (2, .int (iI F)), (3, .int (iI y))] [] := by
    intro n
    induction n with
    | zero =>
      intro k z F y M1 f h hF hy hy2 hh hz hs1 hR1 hfr hm
      exfalso; omega
    | succ n ih =>
      intro k z F y M1 f h hF hy hy2 hh hz hs1 hR1 hfr hm
      have hk5 : k = 0 ∨ 0 < g 5 := by omega
      obtain ⟨a1, a2, a3, a4, a5⟩ := cycF_ok hI (first := F) (by omega) k hk5
      have hI1 : Inv h := by rw [hh]; exact a1
      have h5 : h 5 = g 5 := by rw [hh]; exact a2 5 (by decide)
      have f5 : f 5 = g 5 := hR1.1.2.2.2.2.2.trans h5
      have h4e : h 4 = g 4 := by rw [hh]; exact a2 4 (by decide)
      have f4 : f 4 = g 4 := hR1.1.2.2.2.2.1.trans h4e
      refine g_iload_n X 3 rfl dX3_passCycle_35 rfl ?_
      refine g_aload_n X 0 rfl dX3_passCycle_36 rfl ?_
      refine g_get X cl_X3 3 (by decide) wf_X3_52 rfl (hs1.mem (i := 0) (by decide) (by decide)) hs1.obj rfl dX3_passCycle_37 rfl ?_
      refine g_icmp_ge X ⟨by omega, by omega⟩ ⟨by omega, by omega⟩ (tgt := 57) dX3_passCycle_40 (by decide) rfl (fun h_16 => ?_) (fun h_16 => ?_)
      · refine g_iconst X (z := 0) dX3_passCycle_57 rfl ?_
        refine g_istore_n X (lv' := [(3, .int (iI 0)), (0, .ref (σ 0)), (1, .int (iI z)), (2, .int (iI F))]) (by decide) rfl dX3_passCycle_58 rfl ?_
        refine g_lv (lv' := [(0, .ref (σ 0)), (1, .int (iI z)), (2, .int (iI F)), (3, .int (iI 0))]) [1, 2, 3, 0] rfl ?_
        exact lp2 9 k _ _ _ _ _ _ hF (by omega) ⟨by decide, by omega⟩ hh hz hs1 hR1 hfr (by omega)
      · refine g_iload_n X 1 rfl dX3_passCycle_43 rfl ?_
        refine g_aload_n X 0 rfl dX3_passCycle_44 rfl ?_
        refine g_iload_n X 3 rfl dX3_passCycle_45 rfl ?_
        refine g_callV X (ct_X3_ask l σ f h y) (As := [.int (iI y)]) (rest := [.int (iI z)]) cl_X3 rfl ca_X3_ask rfl wm_X3_86 wi_X3_ask ws_X3_ask wc_X3_ask w0_X3 ⟨by decide, by decide⟩ (hs1.mem (i := 0) (by decide) (by decide)) hs1.obj (Nat.le_of_ble_eq_true rfl) ⟨by decide, by decide⟩ rfl dX3_passCycle_46 rfl ⟨rfl, hs1, hR1, hI1, by omega, by omega⟩ (fun r1 L1 M_17 hq => ?_)
        obtain ⟨rfl, rfl, c_20, hs_18, hR_19, fr_21⟩ := hq
        refine g_st (st' := [.int (iI (askR h y)), .int (iI z)]) rfl ?_
        refine g_iadd X dX3_passCycle_49 rfl ?_
        refine g_istore_n X (lv' := [(1, .int (iI (z + askR h y))), (0, .ref (σ 0)), (2, .int (iI F)), (3, .int (iI y))]) (by decide) rfl dX3_passCycle_50 rfl ?_
        refine g_iinc X (lv' := [(3, .int (iI (y + 1))), (1, .int (iI (z + askR h y))), (0, .ref (σ 0)), (2, .int (iI F))]) 3 rfl (by decide) rfl dX3_passCycle_51 rfl ?_
        refine g_goto X (n := 35) dX3_passCycle_54 (by decide) ?_
        refine g_lv (lv' := [(0, .ref (σ 0)), (1, .int (iI (z + askR h y))), (2, .int (iI F)), (3, .int (iI (y + 1)))]) [2, 1, 3, 0] rfl ?_
        exact ih (k + 1) _ _ _ _ _ _ hF (by omega) (by omega) (by simp only [cycF]; rw [← hh, show (F + (k : Int)) % g 5 = y from (by rw [show F + (k : Int) = y from by omega, Int.emod_eq_of_lt (by omega) (by omega)])]) (by simp only [cycF]; rw [← hz, ← hh, show (F + (k : Int)) % g 5 = y from (by rw [show F + (k : Int) = y from by omega, Int.emod_eq_of_lt (by omega) (by omega)])]) hs_18 hR_19 (hfr.trans fr_21) (by omega)
  refine g_iconst X (z := 0) dX3_passCycle_0 rfl ?_
  refine g_istore_n X (lv' := [(1, .int (iI 0)), (0, .ref (σ 0))]) (by decide) rfl dX3_passCycle_1 rfl ?_
  refine g_aload_n X 1 rfl dX3_passCycle_2 rfl ?_
  refine g_get X cl_X3 0 (by decide) wf_X3_9 rfl (hs.mem (i := 0) (by decide) (by decide)) hs.obj rfl dX3_passCycle_3 rfl ?_
  refine g_iconst X (z := 3) dX3_passCycle_6 rfl ?_
  refine g_iald X (hs.mem (i := 1) (by decide) (by decide)) hs.set ⟨by decide, by decide⟩ (by decide) dX3_passCycle_7 rfl ?_
  refine g_iconst X (z := 1) dX3_passCycle_8 rfl ?_
  refine g_icmp_ne X ⟨by omega, by omega⟩ ⟨by decide, by decide⟩ (tgt := 31) dX3_passCycle_9 (by decide) rfl (fun h_22 => ?_) (fun h_22 => ?_)
  · refine g_iconst X (z := 0) dX3_passCycle_31 rfl ?_
    refine g_istore_n X (lv' := [(2, .int (iI 0)), (1, .int (iI 0)), (0, .ref (σ 0))]) (by decide) rfl dX3_passCycle_32 rfl ?_
    refine g_iload_n X 0 rfl dX3_passCycle_33 rfl ?_
    refine g_istore_n X (lv' := [(3, .int (iI 0)), (2, .int (iI 0)), (1, .int (iI 0)), (0, .ref (σ 0))]) (by decide) rfl dX3_passCycle_34 rfl ?_
    have hFe : 0 = fstG g := by rw [fstG, if_neg (by omega)]
    refine g_lv (lv' := [(0, .ref (σ 0)), (1, .int (iI 0)), (2, .int (iI 0)), (3, .int (iI 0))]) [3, 2, 1, 0] rfl ?_
    exact lp1 9 0 _ _ _ _ _ g hFe (by omega) (by omega) rfl rfl hs hR (outS.refl _ _) (by omega)
  · refine g_aload_n X 1 rfl dX3_passCycle_12 rfl ?_
    refine g_get X cl_X3 3 (by decide) wf_X3_52 rfl (hs.mem (i := 0) (by decide) (by decide)) hs.obj rfl dX3_passCycle_13 rfl ?_
    refine g_if_le X ⟨by omega, by omega⟩ (tgt := 31) dX3_passCycle_16 (by decide) rfl (fun h_23 => ?_) (fun h_23 => ?_)
    · refine g_iconst X (z := 0) dX3_passCycle_31 rfl ?_
      refine g_istore_n X (lv' := [(2, .int (iI 0)), (1, .int (iI 0)), (0, .ref (σ 0))]) (by decide) rfl dX3_passCycle_32 rfl ?_
      refine g_iload_n X 0 rfl dX3_passCycle_33 rfl ?_
      refine g_istore_n X (lv' := [(3, .int (iI 0)), (2, .int (iI 0)), (1, .int (iI 0)), (0, .ref (σ 0))]) (by decide) rfl dX3_passCycle_34 rfl ?_
      have hFe : 0 = fstG g := by rw [fstG, if_neg (by omega)]
      refine g_lv (lv' := [(0, .ref (σ 0)), (1, .int (iI 0)), (2, .int (iI 0)), (3, .int (iI 0))]) [3, 2, 1, 0] rfl ?_
      exact lp1 9 0 _ _ _ _ _ g hFe (by omega) (by omega) rfl rfl hs hR (outS.refl _ _) (by omega)
    · refine g_aload_n X 1 rfl dX3_passCycle_19 rfl ?_
      refine g_get X cl_X3 4 (by decide) wf_X3_56 rfl (hs.mem (i := 0) (by decide) (by decide)) hs.obj rfl dX3_passCycle_20 rfl ?_
      refine g_aload_n X 1 rfl dX3_passCycle_23 rfl ?_
      refine g_get X cl_X3 3 (by decide) wf_X3_52 rfl (hs.mem (i := 0) (by decide) (by decide)) hs.obj rfl dX3_passCycle_24 rfl ?_
      refine g_irem X ⟨⟨by omega, by omega⟩, by omega, by omega⟩ dX3_passCycle_27 rfl ?_
      refine g_goto X (n := 32) dX3_passCycle_28 (by decide) ?_
      refine g_istore_n X (lv' := [(2, .int (iI (c 4 % c 5))), (1, .int (iI 0)), (0, .ref (σ 0))]) (by decide) rfl dX3_passCycle_32 rfl ?_
      refine g_iload_n X 0 rfl dX3_passCycle_33 rfl ?_
      refine g_istore_n X (lv' := [(3, .int (iI (c 4 % c 5))), (2, .int (iI (c 4 % c 5))), (1, .int (iI 0)), (0, .ref (σ 0))]) (by decide) rfl dX3_passCycle_34 rfl ?_
      have hFe : c 4 % c 5 = fstG g := by rw [fstG, if_pos (by omega), e4, e5]
      refine g_lv (lv' := [(0, .ref (σ 0)), (1, .int (iI 0)), (2, .int (iI (c 4 % c 5))), (3, .int (iI (c 4 % c 5)))]) [3, 2, 1, 0] rfl ?_
      exact lp1 9 0 _ _ _ _ _ g hFe (by omega) (by omega) rfl rfl hs hR (outS.refl _ _) (by omega)
def RowOk (c : Int → Int) : Prop := ∀ i, 0 ≤ i → i < c 5 → R32 (c (70 + 10 * i + 3)) ∧ R32 (c (70 + 10 * i + 2)) ∧ (0 ≤ c (70 + 10 * i + 4) + c (70 + 10 * i + 1) ∧ c (70 + 10 * i + 4) + c (70 + 10 * i + 1) < 2147483648)
def toS (c : Int → Int) (w : Int) : Nat → Int
  | 0 => 0
  | k + 1 => toS c w k + rwTell (fRow c k) w
theorem Rel.rows {c g : Int → Int} (h : Rel c g) (hI : Inv g) : RowOk c := fun i i0 i1 => by
  rw [h.1.2.2.2.2.2] at i1
  obtain ⟨q0, q1, q2, q3, q4, -⟩ := h.2.2 i i0 i1
  obtain ⟨r0, r1, r2, r3, -⟩ := hI.2.2 i i0 i1
  exact ⟨⟨by omega, by omega⟩, ⟨by omega, by omega⟩, by omega, by omega⟩
theorem toS_left {c g : Int → Int} (h : Rel c g) : ∀ k : Nat, (k : Int) ≤ g 5 → toS c 3 k = wlS g k
  | 0, _ => rfl
  | k + 1, hk => by
    simp only [toS, wlS]
    rw [toS_left h k (by omega), ← (h.2.2 k (by omega) (by omega)).2.2.2.1]
    rfl
theorem toS_done {c g : Int → Int} (h : Rel c g) : ∀ k : Nat, (k : Int) ≤ g 5 → toS c 2 k - toS c 3 k = ofS g 7 k
  | 0, _ => rfl
  | k + 1, hk => by
    have e := toS_done h k (by omega)
    obtain ⟨-, -, q2, q3, -⟩ := h.2.2 k (by omega) (by omega)
    simp only [toS, ofS]
    rw [← e, show ofV g 7 (70 + 10 * (k : Int)) = g (70 + 10 * (k : Int) + 2) - g (70 + 10 * (k : Int) + 3) from rfl, ← q2, ← q3]
    show toS c 2 k + c (70 + 10 * (k : Int) + 2) - (toS c 3 k + c (70 + 10 * (k : Int) + 3)) = _
    omega
theorem toS_st {c g : Int → Int} (h : Rel c g) : ∀ k : Nat, (k : Int) ≤ g 5 → toS c 5 k = ofS g 8 k
  | 0, _ => rfl
  | k + 1, hk => by
    have e := toS_st h k (by omega)
    obtain ⟨-, -, -, -, -, -, q6, -⟩ := h.2.2 k (by omega) (by omega)
    simp only [toS, ofS]
    rw [e, show ofV g 8 (70 + 10 * (k : Int)) = g (70 + 10 * (k : Int) + 6) from rfl, ← q6]
    rfl
theorem toS_cl {c g : Int → Int} (h : Rel c g) : ∀ k : Nat, (k : Int) ≤ g 5 → toS c 6 k = ofS g 9 k
  | 0, _ => rfl
  | k + 1, hk => by
    have e := toS_cl h k (by omega)
    obtain ⟨-, -, -, -, -, -, -, q7, -⟩ := h.2.2 k (by omega) (by omega)
    simp only [toS, ofS]
    rw [e, show ofV g 9 (70 + 10 * (k : Int)) = g (70 + 10 * (k : Int) + 7) from rfl, ← q7]
    rfl
set_option maxRecDepth 100000 in
set_option maxHeartbeats 4000000 in
theorem ct_X3_total (l : Launch) (σ : Int → Nat) (c : Int → Int) (w : Int) : Ct l yX3_total cX3_total 4 (some .int) 2 0 0 (fun ca av L M => av = [.ref (σ 0), .int (iI w)] ∧ isSt ca L M σ c ∧ RowOk c ∧ (0 ≤ c 5 ∧ c 5 ≤ 4) ∧ R32 w) (fun ca av L M r L1 M1 => r = some (.int (iI (toS c w (c 5).toNat))) ∧ L = L1 ∧ M = M1) := by
  refine Ct_of (own := RX3) (by decide) rfl (by rintro _ _ _ _ ⟨rfl, _⟩; exact Nat.le_of_ble_eq_true rfl) ?_
  rintro p e s m args below meth cod D ca A av L M ⟨rfl, hs, hRo, h5, hw⟩ X hret hname
  refine g_lv (lv' := [(0, .ref (σ 0)), (1, .int (iI w))]) [0, 1] rfl ?_
  generalize hQ : MQ below _ args s _ _ A = Q
  have lp : ∀ (n : Nat) (k : Nat) (z y : Int) (hy : y = k) (hk : y ≤ c 5) (hz : z = toS c w k) (hm : c 5 - y < (n : Int)), G p l e (Rm 2 0 0) s m args below meth cod D A 4 Q 0 0 L M 4 [(0, .ref (σ 0)), (1, .int (iI w)), (2, .int (iI z)), (3, .int (iI y))] [] := by
    intro n
    induction n with
    | zero =>
      intro k z y hy hk hz hm
      exfalso; omega
    | succ n ih =>
      intro k z y hy hk hz hm
      refine g_iload_n X 3 rfl dX3_total_4 rfl ?_
      refine g_aload_n X 0 rfl dX3_total_5 rfl ?_
      refine g_get X cl_X3 3 (by decide) wf_X3_52 rfl (hs.mem (i := 0) (by decide) (by decide)) hs.obj rfl dX3_total_6 rfl ?_
      refine g_icmp_ge X ⟨by omega, by omega⟩ ⟨by omega, by omega⟩ (tgt := 31) dX3_total_9 (by decide) rfl (fun h_1 => ?_) (fun h_1 => ?_)
      · refine g_iload_n X 2 rfl dX3_total_31 rfl ?_
        subst hQ
        exact g_iret X hret ⟨Nat.le_of_ble_eq_true rfl, Nat.le_of_ble_eq_true rfl⟩ dX3_total_32 ⟨by rw [hz, show (c 5).toNat = k from by omega], rfl, rfl⟩
      · refine g_iload_n X 2 rfl dX3_total_12 rfl ?_
        refine g_aload_n X 0 rfl dX3_total_13 rfl ?_
        refine g_get X cl_X3 1 (by decide) wf_X3_17 rfl (hs.mem (i := 0) (by decide) (by decide)) hs.obj rfl dX3_total_14 rfl ?_
        refine g_iload_n X 3 rfl dX3_total_17 rfl ?_
        refine g_aald X (t := 5) rfl (hs.mem (i := 2) (by decide) (by decide)) hs.strs ⟨by omega, by omega⟩ (by decide) (if_pos (by omega)) dX3_total_18 rfl ?_
        have hw_2 : M (σ (20 + y)) = .inr (4, [.int (iI (c (70 + 10 * y))), .int (iI (c (70 + 10 * y + 1))), .int (iI (c (70 + 10 * y + 2))), .int (iI (c (70 + 10 * y + 3))), .int (iI (c (70 + 10 * y + 4))), .int (iI (c (70 + 10 * y + 5))), .int (iI (c (70 + 10 * y + 6))), .int (iI (c (70 + 10 * y + 7)))]) := (hs.row (by omega) (by omega))
        refine g_iload_n X 1 rfl dX3_total_19 rfl ?_
        have hok := hRo y (by omega) (by omega)
        refine g_callVN X (ct_X4_tell l (σ (20 + y)) (fRow c y) w) (host := "StrideBanks") (As := [.int (iI w)]) (rest := [.int (iI z)]) cl_X4 rfl ca_X4_tell rfl wm_X3_134 wi_X4_tell ws_X4_tell wc_X4_tell w0_X4 ⟨by decide, by decide⟩ (hs.mem (by omega) (by omega)) hw_2 (Nat.le_of_ble_eq_true rfl) ⟨by decide, by decide⟩ rfl dX3_total_20 rfl ⟨rfl, (hs.mem (by omega) (by omega)), (hw_2).trans (cRow_eq _ _), hw, hok.1, hok.2.1, hok.2.2⟩ (fun r1 L1 M1 hq => ?_)
        obtain ⟨rfl, rfl, rfl⟩ := hq
        refine g_st (st' := [.int (iI (rwTell (fRow c y) w)), .int (iI z)]) rfl ?_
        refine g_iadd X dX3_total_23 rfl ?_
        refine g_istore_n X (lv' := [(2, .int (iI (z + rwTell (fRow c y) w))), (0, .ref (σ 0)), (1, .int (iI w)), (3, .int (iI y))]) (by decide) rfl dX3_total_24 rfl ?_
        refine g_iinc X (lv' := [(3, .int (iI (y + 1))), (2, .int (iI (z + rwTell (fRow c y) w))), (0, .ref (σ 0)), (1, .int (iI w))]) 3 rfl (by decide) rfl dX3_total_25 rfl ?_
        refine g_goto X (n := 4) dX3_total_28 (by decide) ?_
        refine g_lv (lv' := [(0, .ref (σ 0)), (1, .int (iI w)), (2, .int (iI (z + rwTell (fRow c y) w))), (3, .int (iI (y + 1)))]) [2, 3, 1, 0] rfl ?_
        exact ih (k + 1) _ _ (by omega) (by omega) (by simp only [toS]; rw [hz, hy]) (by omega)
  refine g_iconst X (z := 0) dX3_total_0 rfl ?_
  refine g_istore_n X (lv' := [(2, .int (iI 0)), (0, .ref (σ 0)), (1, .int (iI w))]) (by decide) rfl dX3_total_1 rfl ?_
  refine g_iconst X (z := 0) dX3_total_2 rfl ?_
  refine g_istore_n X (lv' := [(3, .int (iI 0)), (2, .int (iI 0)), (0, .ref (σ 0)), (1, .int (iI w))]) (by decide) rfl dX3_total_3 rfl ?_
  refine g_lv (lv' := [(0, .ref (σ 0)), (1, .int (iI w)), (2, .int (iI 0)), (3, .int (iI 0))]) [2, 3, 1, 0] rfl ?_
  exact lp 9 0 _ _ rfl (by omega) rfl (by omega)
set_option maxRecDepth 100000 in
set_option maxHeartbeats 4000000 in
theorem ct_X3_passAll (l : Launch) (σ : Int → Nat) (c : Int → Int) (g : Int → Int) : Ct l yX3_passAll cX3_passAll 3 (some .int) 4 0 0 (fun ca av L M => av = [.ref (σ 0)] ∧ isSt ca L M σ c ∧ Rel c g ∧ Inv g ∧ g 4 ≤ 900000) (fun ca av L M r L1 M1 => r = some (.int (iI (roC 20000 g))) ∧ L = L1 ∧ ∃ c1, isSt ca L M1 σ c1 ∧ Rel c1 (roS 20000 g) ∧ outS σ M M1) := by
  refine Ct_of (own := RX3) (by decide) rfl (by rintro _ _ _ _ ⟨rfl, _⟩; exact Nat.le_of_ble_eq_true rfl) ?_
  rintro p e s m args below meth cod D ca A av L M ⟨rfl, hs, hR, hI, h4⟩ X hret hname
  refine g_lv (lv' := [(0, .ref (σ 0))]) [0] rfl ?_
  generalize hQ : MQ below _ args s _ _ A = Q
  obtain ⟨⟨i00, i01⟩, ⟨i10, i11⟩, ⟨i20, i21⟩, ⟨i30, i31⟩, ⟨i40, i41⟩, i50, i51⟩ := id hI.1
  obtain ⟨⟨e0, e1, e2, e3, e4, e5⟩, hRB, hRR⟩ := id hR
  have lp : ∀ (n : Nat) (z wl w : Int) (M1 : Mem) (f h : Int → Int) (hfI : Inv h) (hf4 : h 4 + n ≤ 1000000) (hw : 0 ≤ w) (hB : ∀ b, 0 ≤ b → b < 16 → h (6 + 4 * b) - h 4 ≤ w) (hwe : wl = wlG h) (hC : z + roC n h = roC 20000 g) (hT : roS n h = roS 20000 g) (hs1 : isSt ca L M1 σ f) (hR1 : Rel f h) (hfr : outS σ M M1) (hz : 0 ≤ z) (hm : 13 * wlG h + w < (n : Int)), G p l e (Rm 4 0 0) s m args below meth cod D A 3 Q 0 0 L M1 8 [(0, .ref (σ 0)), (1, .int (iI wl)), (2, .int (iI z))] [] := by
    intro n
    induction n with
    | zero =>
      intro z wl w M1 f h hfI hf4 hw hB hwe hC hT hs1 hR1 hfr hz hm
      exfalso; have := wlG_nn hfI; omega
    | succ n ih =>
      intro z wl w M1 f h hfI hf4 hw hB hwe hC hT hs1 hR1 hfr hz hm
      have hwn := wlG_nn hfI
      have hrr := ro_rng (g := h) (n + 1)
      have hr2 := ro_rng (g := g) 20000
      obtain ⟨⟨i00, i01⟩, ⟨i10, i11⟩, ⟨i20, i21⟩, ⟨i30, i31⟩, ⟨i40, i41⟩, i50, i51⟩ := id hfI.1
      refine g_iload_n X 1 rfl dX3_passAll_8 rfl ?_
      refine g_if_le X ⟨by omega, by omega⟩ (tgt := 31) dX3_passAll_9 (by decide) rfl (fun h_1 => ?_) (fun h_1 => ?_)
      · refine g_iload_n X 2 rfl dX3_passAll_31 rfl ?_
        subst hQ
        exact g_iret X hret ⟨Nat.le_of_ble_eq_true rfl, Nat.le_of_ble_eq_true rfl⟩ dX3_passAll_32 ⟨by rw [← hC, roC, if_neg (by omega), Int.add_zero], rfl, f, hs1, by rw [← hT, roS, if_neg (by omega)]; exact hR1, hfr⟩
      · refine g_iload_n X 2 rfl dX3_passAll_12 rfl ?_
        refine g_ldc X (z := 1000000) wv_X3_119 (by decide +kernel) dX3_passAll_13 rfl ?_
        refine g_icmp_ge X ⟨by omega, by omega⟩ ⟨by decide, by decide⟩ (tgt := 31) dX3_passAll_15 (by decide) rfl (fun h_2 => ?_) (fun h_2 => ?_)
        · refine g_iload_n X 2 rfl dX3_passAll_31 rfl ?_
          exact absurd (ro_rng (g := h) (n + 1)).1 (by have := (ro_rng (g := g) 20000).2; omega)
        · refine g_iload_n X 1 rfl dX3_passAll_18 rfl ?_
          refine g_aload_n X 0 rfl dX3_passAll_19 rfl ?_
          refine g_callV X (ct_X3_passCycle l σ f h) (As := []) (rest := [.int (iI wl)]) cl_X3 rfl ca_X3_passCycle rfl wm_X3_120 wi_X3_passCycle ws_X3_passCycle wc_X3_passCycle w0_X3 ⟨by decide, by decide⟩ (hs1.mem (i := 0) (by decide) (by decide)) hs1.obj (Nat.le_of_ble_eq_true rfl) ⟨by decide, by decide⟩ rfl dX3_passAll_20 rfl ⟨rfl, hs1, hR1, hfI, by omega⟩ (fun r1 L1 M_3 hq => ?_)
          obtain ⟨rfl, rfl, c_6, hs_4, hR_5, fr_7⟩ := hq
          refine g_st (st' := [.int (iI (cycR h)), .int (iI wl)]) rfl ?_
          refine g_isub X dX3_passAll_23 rfl ?_
          refine g_istore_n X (lv' := [(1, .int (iI (wl - cycR h))), (0, .ref (σ 0)), (2, .int (iI z))]) (by decide) rfl dX3_passAll_24 rfl ?_
          refine g_iinc X (lv' := [(2, .int (iI (z + 1))), (1, .int (iI (wl - cycR h))), (0, .ref (σ 0))]) 2 rfl (by decide) rfl dX3_passAll_25 rfl ?_
          refine g_goto X (n := 8) dX3_passAll_28 (by decide) ?_
          have hwl : wlG h > 0 := by omega
          obtain ⟨w', p1, p2, p3⟩ := cyc_pot hfI (by omega) hw hB hwl
          have co := cyc_ok hfI (by omega)
          refine g_lv (lv' := [(0, .ref (σ 0)), (1, .int (iI (wl - cycR h))), (2, .int (iI (z + 1)))]) [2, 1, 0] rfl ?_
          exact ih (z + 1) (wl - cycR h) w' _ _ _ co.1 (by omega) p1 p2 (by omega) (by rw [← hC, roC, if_pos hwl]; omega) (by rw [← hT, roS, if_pos hwl]) hs_4 hR_5 (hfr.trans fr_7) (by omega) (by omega)
  refine g_aload_n X 0 rfl dX3_passAll_0 rfl ?_
  refine g_iconst X (z := 3) dX3_passAll_1 rfl ?_
  refine g_callV X (ct_X3_total l σ c 3) (As := [.int (iI 3)]) (rest := []) cl_X3 rfl ca_X3_total rfl wm_X3_116 wi_X3_total ws_X3_total wc_X3_total w0_X3 ⟨by decide, by decide⟩ (hs.mem (i := 0) (by decide) (by decide)) hs.obj (by decide) ⟨by decide, by decide⟩ rfl dX3_passAll_2 rfl ⟨rfl, hs, (hR.rows hI), ⟨by omega, by omega⟩, ⟨by decide, by decide⟩⟩ (fun r1 L1 M1 hq => ?_)
  obtain ⟨rfl, rfl, rfl⟩ := hq
  refine g_st (st' := [.int (iI (toS c 3 (c 5).toNat))]) rfl ?_
  refine g_st (st' := [.int (iI (wlG g))]) (by rw [e5, toS_left hR _ (by omega), ← wlG]) ?_
  refine g_istore_n X (lv' := [(1, .int (iI (wlG g))), (0, .ref (σ 0))]) (by decide) rfl dX3_passAll_5 rfl ?_
  refine g_iconst X (z := 0) dX3_passAll_6 rfl ?_
  refine g_istore_n X (lv' := [(2, .int (iI 0)), (1, .int (iI (wlG g))), (0, .ref (σ 0))]) (by decide) rfl dX3_passAll_7 rfl ?_
  have hwn := wlG_nn hI
  refine g_lv (lv' := [(0, .ref (σ 0)), (1, .int (iI (wlG g))), (2, .int (iI 0))]) [2, 1, 0] rfl ?_
  exact lp 20000 _ _ 12 _ _ g hI (by omega) (by decide) (fun b h0 h1 => by have := hI.2.1 b h0 h1; omega) rfl (by omega) rfl hs hR (outS.refl _ _) (by decide) (by omega)
def bzS (c : Int → Int) : Nat → Int
  | 0 => 0
  | k + 1 => bzS c k + if c (6 + 4 * (k : Int)) > c 4 then 1 else 0
set_option maxRecDepth 100000 in
set_option maxHeartbeats 4000000 in
theorem ct_X3_busyBanks (l : Launch) (σ : Int → Nat) (c : Int → Int) : Ct l yX3_busyBanks cX3_busyBanks 3 (some .int) 0 0 0 (fun ca av L M => av = [.ref (σ 0)] ∧ isSt ca L M σ c ∧ (∀ b, 0 ≤ b → b < 16 → R32 (c (6 + 4 * b))) ∧ R32 (c 4)) (fun ca av L M r L1 M1 => r = some (.int (iI (bzS c 16))) ∧ L = L1 ∧ M = M1) := by
  refine Ct_of (own := RX3) (by decide) rfl (by rintro _ _ _ _ ⟨rfl, _⟩; exact Nat.le_of_ble_eq_true rfl) ?_
  rintro p e s m args below meth cod D ca A av L M ⟨rfl, hs, hB, h4⟩ X hret hname
  refine g_lv (lv' := [(0, .ref (σ 0))]) [0] rfl ?_
  generalize hQ : MQ below _ args s _ _ A = Q
  have lp : ∀ (n : Nat) (k : Nat) (z y : Int) (hy : y = k) (hk : y ≤ 16) (hz : z = bzS c k) (hm : 16 - y < (n : Int)), G p l e (Rm 0 0 0) s m args below meth cod D A 3 Q 0 0 L M 4 [(0, .ref (σ 0)), (1, .int (iI z)), (2, .int (iI y))] [] := by
    intro n
    induction n with
    | zero =>
      intro k z y hy hk hz hm
      exfalso; omega
    | succ n ih =>
      intro k z y hy hk hz hm
      refine g_iload_n X 2 rfl dX3_busyBanks_4 rfl ?_
      refine g_bipush X (z := 16) (by decide +kernel) dX3_busyBanks_5 rfl ?_
      refine g_icmp_ge X ⟨by omega, by omega⟩ ⟨by decide, by decide⟩ (tgt := 40) dX3_busyBanks_7 (by decide) rfl (fun h_1 => ?_) (fun h_1 => ?_)
      · refine g_iload_n X 1 rfl dX3_busyBanks_40 rfl ?_
        subst hQ
        exact g_iret X hret ⟨Nat.le_of_ble_eq_true rfl, Nat.le_of_ble_eq_true rfl⟩ dX3_busyBanks_41 ⟨by rw [hz, show k = 16 from by omega], rfl, rfl⟩
      · refine g_iload_n X 1 rfl dX3_busyBanks_10 rfl ?_
        refine g_aload_n X 0 rfl dX3_busyBanks_11 rfl ?_
        refine g_get X cl_X3 2 (by decide) wf_X3_23 rfl (hs.mem (i := 0) (by decide) (by decide)) hs.obj rfl dX3_busyBanks_12 rfl ?_
        refine g_iload_n X 2 rfl dX3_busyBanks_15 rfl ?_
        refine g_aald X (t := 3) rfl (hs.mem (i := 3) (by decide) (by decide)) hs.bks ⟨by omega, by omega⟩ (by decide) (if_pos (by omega)) dX3_busyBanks_16 rfl ?_
        have hw_2 : M (σ (4 + y)) = .inr (0, [.int (iI (c (6 + 4 * y))), .int (iI (c (6 + 4 * y + 1))), .int (iI (c (6 + 4 * y + 2))), .int (iI (c (6 + 4 * y + 3)))]) := (hs.bank (by omega) (by omega))
        refine g_getN X cl_X0 0 (by decide) wf_X3_99 rfl (hs.mem (by omega) (by omega)) hw_2 rfl dX3_busyBanks_17 rfl ?_
        refine g_aload_n X 0 rfl dX3_busyBanks_20 rfl ?_
        refine g_get X cl_X3 4 (by decide) wf_X3_56 rfl (hs.mem (i := 0) (by decide) (by decide)) hs.obj rfl dX3_busyBanks_21 rfl ?_
        refine g_icmp_le X (hB y (by omega) (by omega)) h4 (tgt := 31) dX3_busyBanks_24 (by decide) rfl (fun h_3 => ?_) (fun h_3 => ?_)
        · refine g_iconst X (z := 0) dX3_busyBanks_31 rfl ?_
          refine g_iadd X dX3_busyBanks_32 rfl ?_
          refine g_st (st' := [.int (iI z)]) (by rw [Int.add_zero]) ?_
          refine g_istore_n X (lv' := [(1, .int (iI z)), (0, .ref (σ 0)), (2, .int (iI y))]) (by decide) rfl dX3_busyBanks_33 rfl ?_
          refine g_iinc X (lv' := [(2, .int (iI (y + 1))), (1, .int (iI z)), (0, .ref (σ 0))]) 2 rfl (by decide) rfl dX3_busyBanks_34 rfl ?_
          refine g_goto X (n := 4) dX3_busyBanks_37 (by decide) ?_
          refine g_lv (lv' := [(0, .ref (σ 0)), (1, .int (iI z)), (2, .int (iI (y + 1)))]) [2, 1, 0] rfl ?_
          exact ih (k + 1) _ _ (by omega) (by omega) (by simp only [bzS]; rw [hz, ← hy, if_neg (by omega)]; omega) (by omega)
        · refine g_iconst X (z := 1) dX3_busyBanks_27 rfl ?_
          refine g_goto X (n := 32) dX3_busyBanks_28 (by decide) ?_
          refine g_iadd X dX3_busyBanks_32 rfl ?_
          refine g_istore_n X (lv' := [(1, .int (iI (z + 1))), (0, .ref (σ 0)), (2, .int (iI y))]) (by decide) rfl dX3_busyBanks_33 rfl ?_
          refine g_iinc X (lv' := [(2, .int (iI (y + 1))), (1, .int (iI (z + 1))), (0, .ref (σ 0))]) 2 rfl (by decide) rfl dX3_busyBanks_34 rfl ?_
          refine g_goto X (n := 4) dX3_busyBanks_37 (by decide) ?_
          refine g_lv (lv' := [(0, .ref (σ 0)), (1, .int (iI (z + 1))), (2, .int (iI (y + 1)))]) [2, 1, 0] rfl ?_
          exact ih (k + 1) _ _ (by omega) (by omega) (by simp only [bzS]; rw [hz, ← hy, if_pos (by omega)]) (by omega)
  refine g_iconst X (z := 0) dX3_busyBanks_0 rfl ?_
  refine g_istore_n X (lv' := [(1, .int (iI 0)), (0, .ref (σ 0))]) (by decide) rfl dX3_busyBanks_1 rfl ?_
  refine g_iconst X (z := 0) dX3_busyBanks_2 rfl ?_
  refine g_istore_n X (lv' := [(2, .int (iI 0)), (1, .int (iI 0)), (0, .ref (σ 0))]) (by decide) rfl dX3_busyBanks_3 rfl ?_
  refine g_lv (lv' := [(0, .ref (σ 0)), (1, .int (iI 0)), (2, .int (iI 0))]) [2, 1, 0] rfl ?_
  exact lp 20 0 _ _ rfl (by decide) rfl (by decide)
