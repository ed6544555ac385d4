/-! the class: running, and what there is -/
set_option maxRecDepth 100000 in
set_option maxHeartbeats 4000000 in
theorem ct_X5_run (l : Launch) (Sg : Int → Int → Nat) (g be sa iz pa : Int → Int) (len st : Int) (v : Int) : Ct l yX5_run cX5_run 4 (some .int) 5 0 0 (fun ca av L M => av = [.ref (Sg 10 0), .int (iI v)] ∧ SBm ca L M Sg (g, be, sa, iz, pa, len, st) ∧ WfA (g, be, sa, iz, pa, len, st) ∧ R32 v) (fun ca av L M r L1 M1 => r = some (.int (iI (anRun (g, be, sa, iz, pa, len, st) v))) ∧ L = L1 ∧ SBo ca L M M1 Sg (opRun (g, be, sa, iz, pa, len, st) v)) := by
  refine Ct_of (own := RX5) (by decide) rfl (by rintro _ _ _ _ ⟨rfl, _⟩; exact Nat.le_of_ble_eq_true rfl) ?_
  rintro p e s m args below meth cod D ca A av L M ⟨rfl, hSB, hW, hv⟩ X hret hname
  refine g_lv (lv' := [(0, .ref (Sg 10 0)), (1, .int (iI v))]) [0, 1] rfl ?_
  generalize hQ : MQ below _ args s _ _ A = Q
  obtain ⟨c, ct, nf, nu, hB, hR⟩ : ∃ (c ct : Int → Int) (nf : Int) (nu : Int → Int), SBc ca L M Sg be sa iz pa nu len nf st c ct ∧ Rel c g := SBm.opn hSB
  have hA := hB.adr
  have hO := outA.refl Sg M
  obtain ⟨hWg, hln, hst, hpa, hWh, hWs⟩ : WfG g ∧ (0 ≤ len ∧ len ≤ 60) ∧ (0 ≤ st ∧ st ≤ 6) ∧ InvP pa ∧ (∀ j, 0 ≤ j → j < st → WfG (blk (110 * j) be)) ∧ (∀ k, 0 ≤ k → k < 2 → (iz k = 0 ∨ iz k = 1) ∧ (iz k ≠ 0 → WfG (blk (110 * k) sa))) := id hW
  obtain ⟨hI, hZ, h4⟩ := id hWg
  obtain ⟨⟨i00, i01⟩, ⟨i10, i11⟩, ⟨i20, i21⟩, ⟨i30, i31⟩, ⟨i40, i41⟩, i50, i51⟩ := id hI.1
  obtain ⟨⟨e0, e1, e2, e3, e4, e5⟩, hRB, hRR⟩ := id hR
  have lp : ∀ (n : Nat) (k : Nat) (z y : Int) (M1 : Mem) (c1 : Int → Int) (hn : 1 ≤ v ∧ v ≤ 500) (hm4 : ¬ g 4 > 99999 - v) (hy : y = k) (hyb : y ≤ v) (hz : z = itR g k) (hB1 : SBc ca L M1 Sg (recB st be g) sa iz pa nu len nf (recN st) c1 ct) (hR1 : Rel c1 (itG g k)) (hO1 : outA Sg M M1) (hm : v - y < (n : Int)), G p l e (Rm 5 0 0) s m args below meth cod D A 4 Q 0 0 L M1 46 [(0, .ref (Sg 10 0)), (1, .int (iI v)), (2, .int (iI z)), (3, .int (iI y))] [] := by
    intro n
    induction n with
    | zero =>
      intro k z y M1 c1 hn hm4 hy hyb hz hB1 hR1 hO1 hm
      exfalso; omega
    | succ n ih =>
      intro k z y M1 c1 hn hm4 hy hyb hz hB1 hR1 hO1 hm
      refine g_iload_n X 3 rfl dX5_run_46 rfl ?_
      refine g_iload_n X 1 rfl dX5_run_47 rfl ?_
      refine g_icmp_ge X ⟨by omega, by omega⟩ hv (tgt := 67) dX5_run_48 (by decide) rfl (fun h_1 => ?_) (fun h_1 => ?_)
      · refine g_iload_n X 2 rfl dX5_run_67 rfl ?_
        subst hQ
        have hk9 : v.toNat = k := by omega
        exact g_iret X hret ⟨Nat.le_of_ble_eq_true rfl, Nat.le_of_ble_eq_true rfl⟩ dX5_run_68 ⟨by rw [anRun, if_pos hn, if_neg hm4, hk9, hz], rfl, by rw [opRun, if_pos ⟨hn, hm4⟩]; show SBo ca L M M1 Sg (chg (g, be, sa, iz, pa, len, st) (itG g v.toNat)); rw [hk9]; exact hB1.fin hR1 hO1⟩
      · refine g_iload_n X 2 rfl dX5_run_51 rfl ?_
        refine g_aload_n X 0 rfl dX5_run_52 rfl ?_
        refine g_get X cl_X5 0 (by decide) wf_X5_10 rfl (hA.mem (s := 10) (k := 0) (by unfold inD; omega)) hB1.obj rfl dX5_run_53 rfl ?_
        obtain ⟨hIk, hk4, hk5⟩ := itG_ok hI k (by omega)
        refine g_callVN X (ct_X3_passCycle l (Sg 0) c1 (itG g k)) (host := "StrideBanks") (As := []) (rest := [.int (iI z)]) cl_X3 rfl ca_X3_passCycle rfl wm_X5_108 wi_X3_passCycle ws_X3_passCycle wc_X3_passCycle w0_X3 ⟨by decide, by decide⟩ (hB1.now.mem (i := 0) (by decide) (by decide)) hB1.now.obj (Nat.le_of_ble_eq_true rfl) ⟨by decide, by decide⟩ rfl dX5_run_56 rfl ⟨rfl, hB1.now, hR1, hIk, by omega⟩ (fun r1 L1 M_2 hq => ?_)
        obtain ⟨rfl, rfl, c_6, hs_3, hR_4, fr_5⟩ := hq
        have hB_7 := hB1.toNow hs_3 fr_5
        have hO_8 := hO1.trans (outA.ofS (s := 0) (by decide) (by decide) fr_5)
        refine g_st (st' := [.int (iI (cycR (itG g k))), .int (iI z)]) rfl ?_
        refine g_iadd X dX5_run_59 rfl ?_
        refine g_istore_n X (lv' := [(2, .int (iI (z + cycR (itG g k)))), (0, .ref (Sg 10 0)), (1, .int (iI v)), (3, .int (iI y))]) (by decide) rfl dX5_run_60 rfl ?_
        refine g_iinc X (lv' := [(3, .int (iI (y + 1))), (2, .int (iI (z + cycR (itG g k)))), (0, .ref (Sg 10 0)), (1, .int (iI v))]) 3 rfl (by decide) rfl dX5_run_61 rfl ?_
        refine g_goto X (n := 46) dX5_run_64 (by decide) ?_
        refine g_lv (lv' := [(0, .ref (Sg 10 0)), (1, .int (iI v)), (2, .int (iI (z + cycR (itG g k)))), (3, .int (iI (y + 1)))]) [2, 3, 1, 0] rfl ?_
        exact ih (k + 1) _ _ _ _ hn hm4 (by omega) (by omega) (by simp only [itR]; rw [hz]) hB_7 hR_4 hO_8 (by omega)
  refine g_iload_n X 1 rfl dX5_run_0 rfl ?_
  refine g_iconst X (z := 1) dX5_run_1 rfl ?_
  refine g_sipush X (z := 500) (by decide +kernel) dX5_run_2 rfl ?_
  refine g_callS X (ct_X5_isIn l v 1 500) (As := [.int (iI v), .int (iI 1), .int (iI 500)]) (rest := []) rfl ca_X5_isIn rfl wm_X5_41 wt_X5_isIn wc_X5_isIn w0_X5 ⟨by decide, by decide⟩ (by decide) ⟨by decide, by decide⟩ rfl dX5_run_5 rfl ⟨rfl, hv, ⟨by decide, by decide⟩, ⟨by decide, by decide⟩⟩ (fun r1 L1 M1 hq => ?_)
  obtain ⟨rfl, rfl, rfl⟩ := hq
  refine g_st (st' := [.int (iI (if 1 ≤ v ∧ v ≤ 500 then 1 else 0))]) rfl ?_
  refine g_if_neb X (tgt := 14) dX5_run_8 (by decide) rfl (fun h_9 => ?_) (fun h_9 => ?_)
  · refine g_aload_n X 0 rfl dX5_run_14 rfl ?_
    refine g_get X cl_X5 0 (by decide) wf_X5_10 rfl (hA.mem (s := 10) (k := 0) (by unfold inD; omega)) hB.obj rfl dX5_run_15 rfl ?_
    refine g_getN X cl_X3 4 (by decide) wf_X5_104 rfl (hB.now.mem (i := 0) (by decide) (by decide)) hB.now.obj rfl dX5_run_18 rfl ?_
    refine g_iload_n X 1 rfl dX5_run_21 rfl ?_
    refine g_iadd X dX5_run_22 rfl ?_
    refine g_ldc X (z := 99999) wv_X5_107 (by decide +kernel) dX5_run_23 rfl ?_
    refine g_icmp_le X ⟨by omega, by omega⟩ ⟨by decide, by decide⟩ (tgt := 31) dX5_run_25 (by decide) rfl (fun h_10 => ?_) (fun h_10 => ?_)
    · refine g_aload_n X 0 rfl dX5_run_31 rfl ?_
      refine g_get X cl_X5 2 (by decide) wf_X5_22 rfl (hA.mem (s := 10) (k := 0) (by unfold inD; omega)) hB.obj rfl dX5_run_32 rfl ?_
      refine g_aload_n X 0 rfl dX5_run_35 rfl ?_
      refine g_get X cl_X5 0 (by decide) wf_X5_10 rfl (hA.mem (s := 10) (k := 0) (by unfold inD; omega)) hB.obj rfl dX5_run_36 rfl ?_
      refine g_callVN X (ct_X1_record l Sg st be c g) (host := "StrideBanks") (As := [.ref (Sg 0 0)]) (rest := []) cl_X1 rfl ca_X1_record rfl wm_X5_52 wi_X1_record ws_X1_record wc_X1_record w0_X1 ⟨by decide, by decide⟩ (hA.mem (s := 10) (k := 1) (by unfold inD; omega)) hB.hobj (by decide) ⟨by decide, by decide⟩ rfl dX5_run_39 rfl ⟨rfl, hA, hB.hist, hst, hB.now, hR, hI.1.2.2.2.2.2.2, fun j j0 j1 => (hWh j j0 j1).1.1.2.2.2.2.2.2⟩ (fun r1 L1 M_11 hq => ?_)
      obtain ⟨rfl, rfl, hH_12, hs_13, fr_14⟩ := hq
      obtain ⟨hB_15, hO_16⟩ := hB.toRec hH_12 hs_13 fr_14
      have hO_16 := hO.trans hO_16
      refine g_st (st' := []) rfl ?_
      refine g_iconst X (z := 0) dX5_run_42 rfl ?_
      refine g_istore_n X (lv' := [(2, .int (iI 0)), (0, .ref (Sg 10 0)), (1, .int (iI v))]) (by decide) rfl dX5_run_43 rfl ?_
      refine g_iconst X (z := 0) dX5_run_44 rfl ?_
      refine g_istore_n X (lv' := [(3, .int (iI 0)), (2, .int (iI 0)), (0, .ref (Sg 10 0)), (1, .int (iI v))]) (by decide) rfl dX5_run_45 rfl ?_
      refine g_lv (lv' := [(0, .ref (Sg 10 0)), (1, .int (iI v)), (2, .int (iI 0)), (3, .int (iI 0))]) [2, 3, 1, 0] rfl ?_
      exact lp 501 0 _ _ _ _ (by omega) (by omega) rfl (by omega) rfl hB_15 hR hO_16 (by omega)
    · refine g_bipush X (z := -4) (by decide +kernel) dX5_run_28 rfl ?_
      subst hQ
      have hn : 1 ≤ v ∧ v ≤ 500 := by omega
      have hm4 : g 4 > 99999 - v := by omega
      exact g_iret X hret ⟨Nat.le_of_ble_eq_true rfl, Nat.le_of_ble_eq_true rfl⟩ dX5_run_30 ⟨by rw [anRun, if_pos hn, if_pos hm4], rfl, by rw [opRun, if_neg (fun q => q.2 hm4)]; exact hB.fin hR hO⟩
  · refine g_bipush X (z := -2) (by decide +kernel) dX5_run_11 rfl ?_
    subst hQ
    have hn : ¬ (1 ≤ v ∧ v ≤ 500) := by omega
    exact g_iret X hret ⟨Nat.le_of_ble_eq_true rfl, Nat.le_of_ble_eq_true rfl⟩ dX5_run_13 ⟨by rw [anRun, if_neg hn], rfl, by rw [opRun, if_neg (fun q => hn q.1)]; exact hB.fin hR hO⟩
set_option maxRecDepth 100000 in
set_option maxHeartbeats 4000000 in
theorem ct_X5_bankOf (l : Launch) (Sg : Int → Int → Nat) (g be sa iz pa : Int → Int) (len st : Int) (a : Int) : Ct l yX5_bankOf cX5_bankOf 2 (some .int) 5 0 0 (fun ca av L M => av = [.ref (Sg 10 0), .int (iI a)] ∧ SBm ca L M Sg (g, be, sa, iz, pa, len, st) ∧ WfA (g, be, sa, iz, pa, len, st) ∧ R32 a) (fun ca av L M r L1 M1 => r = some (.int (iI (anBankOf (g, be, sa, iz, pa, len, st) a))) ∧ L = L1 ∧ SBo ca L M M1 Sg ((g, be, sa, iz, pa, len, st))) := by
  refine Ct_of (own := RX5) (by decide) rfl (by rintro _ _ _ _ ⟨rfl, _⟩; exact Nat.le_of_ble_eq_true rfl) ?_
  rintro p e s m args below meth cod D ca A av L M ⟨rfl, hSB, hW, ha⟩ X hret hname
  refine g_lv (lv' := [(0, .ref (Sg 10 0)), (1, .int (iI a))]) [0, 1] rfl ?_
  obtain ⟨c, ct, nf, nu, hB, hR⟩ : ∃ (c ct : Int → Int) (nf : Int) (nu : Int → Int), SBc ca L M Sg be sa iz pa nu len nf st c ct ∧ Rel c g := SBm.opn hSB
  have hA := hB.adr
  have hO := outA.refl Sg M
  obtain ⟨hWg, hln, hst, hpa, hWh, hWs⟩ : WfG g ∧ (0 ≤ len ∧ len ≤ 60) ∧ (0 ≤ st ∧ st ≤ 6) ∧ InvP pa ∧ (∀ j, 0 ≤ j → j < st → WfG (blk (110 * j) be)) ∧ (∀ k, 0 ≤ k → k < 2 → (iz k = 0 ∨ iz k = 1) ∧ (iz k ≠ 0 → WfG (blk (110 * k) sa))) := id hW
  obtain ⟨hI, hZ, h4⟩ := id hWg
  obtain ⟨⟨i00, i01⟩, ⟨i10, i11⟩, ⟨i20, i21⟩, ⟨i30, i31⟩, ⟨i40, i41⟩, i50, i51⟩ := id hI.1
  obtain ⟨⟨e0, e1, e2, e3, e4, e5⟩, hRB, hRR⟩ := id hR
  refine g_iload_n X 1 rfl dX5_bankOf_0 rfl ?_
  refine g_iconst X (z := 0) dX5_bankOf_1 rfl ?_
  refine g_sipush X (z := 4095) (by decide +kernel) dX5_bankOf_2 rfl ?_
  refine g_callS X (ct_X5_isIn l a 0 4095) (As := [.int (iI a), .int (iI 0), .int (iI 4095)]) (rest := []) rfl ca_X5_isIn rfl wm_X5_41 wt_X5_isIn wc_X5_isIn w0_X5 ⟨by decide, by decide⟩ (by decide) ⟨by decide, by decide⟩ rfl dX5_bankOf_5 rfl ⟨rfl, ha, ⟨by decide, by decide⟩, ⟨by decide, by decide⟩⟩ (fun r1 L1 M1 hq => ?_)
  obtain ⟨rfl, rfl, rfl⟩ := hq
  refine g_st (st' := [.int (iI (if 0 ≤ a ∧ a ≤ 4095 then 1 else 0))]) rfl ?_
  refine g_if_neb X (tgt := 14) dX5_bankOf_8 (by decide) rfl (fun h_1 => ?_) (fun h_1 => ?_)
  · refine g_aload_n X 0 rfl dX5_bankOf_14 rfl ?_
    refine g_get X cl_X5 0 (by decide) wf_X5_10 rfl (hA.mem (s := 10) (k := 0) (by unfold inD; omega)) hB.obj rfl dX5_bankOf_15 rfl ?_
    refine g_iload_n X 1 rfl dX5_bankOf_18 rfl ?_
    refine g_callVN X (ct_X3_bankAt l (Sg 0) c a) (host := "StrideBanks") (As := [.int (iI a)]) (rest := []) cl_X3 rfl ca_X3_bankAt rfl wm_X5_115 wi_X3_bankAt ws_X3_bankAt wc_X3_bankAt w0_X3 ⟨by decide, by decide⟩ (hB.now.mem (i := 0) (by decide) (by decide)) hB.now.obj (by decide) ⟨by decide, by decide⟩ rfl dX5_bankOf_19 rfl ⟨rfl, hB.now, by omega, by omega, by omega⟩ (fun r1 L1 M1 hq => ?_)
    obtain ⟨rfl, rfl, rfl⟩ := hq
    refine g_st (st' := [.int (iI (bkG c a))]) rfl ?_
    have hn : 0 ≤ a ∧ a ≤ 4095 := by omega
    exact g_iret X hret ⟨Nat.le_of_ble_eq_true rfl, Nat.le_of_ble_eq_true rfl⟩ dX5_bankOf_22 ⟨by rw [anBankOf, if_pos hn, bkG_eq e0 e2], rfl, hB.fin hR hO⟩
  · refine g_bipush X (z := -2) (by decide +kernel) dX5_bankOf_11 rfl ?_
    have hn : ¬ (0 ≤ a ∧ a ≤ 4095) := by omega
    exact g_iret X hret ⟨Nat.le_of_ble_eq_true rfl, Nat.le_of_ble_eq_true rfl⟩ dX5_bankOf_13 ⟨by rw [anBankOf, if_neg hn], rfl, hB.fin hR hO⟩
theorem tell_eq {c g be sa iz pa : Int → Int} {len st i w : Int} (hR : Rel c g) (hI : Inv g) (i0 : 0 ≤ i) (i1 : i < g 5) (hw : ¬ w = 8) : rwTell (fRow c i) w = anStream (g, be, sa, iz, pa, len, st) i w := by
  have hq := hR.2.2 i i0 i1
  have hI2 := hI.2.2 i i0 i1
  have hn := rel_next hq hI2
  obtain ⟨q0, q1, q2, q3, q4, q5, q6, q7, q8⟩ := hq
  obtain ⟨-, -, -, ⟨r3, -⟩, -⟩ := hI2
  have hs : isStr g i := by unfold isStr; omega
  have f : ∀ k, fRow c i k = c (70 + 10 * i + k) := fun k => rfl
  rw [anStream, if_pos hs]
  show _ = if 0 ≤ w ∧ w ≤ 3 then g (70 + 10 * i + w) else if w = 4 then (if g (70 + 10 * i + 3) = 0 then -6 else g (70 + 10 * i + 4)) else if 5 ≤ w ∧ w ≤ 6 then g (70 + 10 * i + w + 1) else if w = 7 then (if g (70 + 10 * i + 3) = 0 then g (70 + 10 * i + 8) else -6) else if w = 8 then (mtV g i).toInt else -2
  unfold rwTell
  by_cases w0 : w = 0
  · subst w0; rw [if_pos rfl, if_pos (by decide), f, Int.add_zero]; exact q0
  · rw [if_neg w0]
    by_cases w1 : w = 1
    · subst w1; rw [if_pos rfl, if_pos (by decide), f]; exact q1
    · rw [if_neg w1]
      by_cases w2 : w = 2
      · subst w2; rw [if_pos rfl, if_pos (by decide), f]; exact q2
      · rw [if_neg w2]
        by_cases w3 : w = 3
        · subst w3; rw [if_pos rfl, if_pos (by decide), f]; exact q3
        · rw [if_neg w3, if_neg (show ¬ (0 ≤ w ∧ w ≤ 3) by omega)]
          by_cases w4 : w = 4
          · rw [if_pos w4, if_pos w4, f, q3, hn]
            by_cases e : g (70 + 10 * i + 3) = 0
            · rw [if_neg (by omega), if_pos e]
            · rw [if_pos (by omega), if_neg e]
          · rw [if_neg w4, if_neg w4]
            by_cases w5 : w = 5
            · subst w5; rw [if_pos rfl, if_pos (by decide), f, q6]; congr 1; omega
            · rw [if_neg w5]
              by_cases w6 : w = 6
              · subst w6; rw [if_pos rfl, if_pos (by decide), f, q7]; congr 1; omega
              · rw [if_neg w6, if_neg (show ¬ (5 ≤ w ∧ w ≤ 6) by omega)]
                by_cases w7 : w = 7
                · rw [if_pos w7, if_pos w7, f, q8]
                · rw [if_neg w7, if_neg w7, if_neg hw]
theorem meet_eq {g be sa iz pa : Int → Int} {len st i w : Int} (i0 : 0 ≤ i) (i1 : i < g 5) (hw : w = 8) : iI (anStream (g, be, sa, iz, pa, len, st) i w) = mtV g i := by
  have hs : isStr g i := by unfold isStr; omega
  subst hw
  rw [anStream, if_pos hs, if_neg (by decide), if_neg (by decide), if_neg (by decide), if_neg (by decide), if_pos rfl, iI_self]
set_option maxRecDepth 100000 in
set_option maxHeartbeats 4000000 in
theorem ct_X5_stream (l : Launch) (Sg : Int → Int → Nat) (g be sa iz pa : Int → Int) (len st : Int) (i w : Int) : Ct l yX5_stream cX5_stream 4 (some .int) 5 0 0 (fun ca av L M => av = [.ref (Sg 10 0), .int (iI i), .int (iI w)] ∧ SBm ca L M Sg (g, be, sa, iz, pa, len, st) ∧ WfA (g, be, sa, iz, pa, len, st) ∧ R32 i ∧ R32 w) (fun ca av L M r L1 M1 => r = some (.int (iI (anStream (g, be, sa, iz, pa, len, st) i w))) ∧ L = L1 ∧ SBo ca L M M1 Sg ((g, be, sa, iz, pa, len, st))) := by
  refine Ct_of (own := RX5) (by decide) rfl (by rintro _ _ _ _ ⟨rfl, _⟩; exact Nat.le_of_ble_eq_true rfl) ?_
  rintro p e s m args below meth cod D ca A av L M ⟨rfl, hSB, hW, hi, hw⟩ X hret hname
  refine g_lv (lv' := [(0, .ref (Sg 10 0)), (1, .int (iI i)), (2, .int (iI w))]) [0, 1, 2] rfl ?_
  obtain ⟨c, ct, nf, nu, hB, hR⟩ : ∃ (c ct : Int → Int) (nf : Int) (nu : Int → Int), SBc ca L M Sg be sa iz pa nu len nf st c ct ∧ Rel c g := SBm.opn hSB
  have hA := hB.adr
  have hO := outA.refl Sg M
  obtain ⟨hWg, hln, hst, hpa, hWh, hWs⟩ : WfG g ∧ (0 ≤ len ∧ len ≤ 60) ∧ (0 ≤ st ∧ st ≤ 6) ∧ InvP pa ∧ (∀ j, 0 ≤ j → j < st → WfG (blk (110 * j) be)) ∧ (∀ k, 0 ≤ k → k < 2 → (iz k = 0 ∨ iz k = 1) ∧ (iz k ≠ 0 → WfG (blk (110 * k) sa))) := id hW
  obtain ⟨hI, hZ, h4⟩ := id hWg
  obtain ⟨⟨i00, i01⟩, ⟨i10, i11⟩, ⟨i20, i21⟩, ⟨i30, i31⟩, ⟨i40, i41⟩, i50, i51⟩ := id hI.1
  obtain ⟨⟨e0, e1, e2, e3, e4, e5⟩, hRB, hRR⟩ := id hR
  refine g_aload_n X 0 rfl dX5_stream_0 rfl ?_
  refine g_get X cl_X5 0 (by decide) wf_X5_10 rfl (hA.mem (s := 10) (k := 0) (by unfold inD; omega)) hB.obj rfl dX5_stream_1 rfl ?_
  refine g_iload_n X 1 rfl dX5_stream_4 rfl ?_
  refine g_callVN X (ct_X3_has l (Sg 0) c i) (host := "StrideBanks") (As := [.int (iI i)]) (rest := []) cl_X3 rfl ca_X3_has rfl wm_X5_84 wi_X3_has ws_X3_has wc_X3_has w0_X3 ⟨by decide, by decide⟩ (hB.now.mem (i := 0) (by decide) (by decide)) hB.now.obj (by decide) ⟨by decide, by decide⟩ rfl dX5_stream_5 rfl ⟨rfl, hB.now, hi, (by omega)⟩ (fun r1 L1 M1 hq => ?_)
  obtain ⟨rfl, rfl, rfl⟩ := hq
  refine g_st (st' := [.int (iI (if 0 ≤ i ∧ i < c 5 then 1 else 0))]) rfl ?_
  refine g_if_neb X (tgt := 13) dX5_stream_8 (by decide) rfl (fun h_1 => ?_) (fun h_1 => ?_)
  · refine g_aload_n X 0 rfl dX5_stream_13 rfl ?_
    refine g_get X cl_X5 0 (by decide) wf_X5_10 rfl (hA.mem (s := 10) (k := 0) (by unfold inD; omega)) hB.obj rfl dX5_stream_14 rfl ?_
    refine g_getN X cl_X3 1 (by decide) wf_X5_88 rfl (hB.now.mem (i := 0) (by decide) (by decide)) hB.now.obj rfl dX5_stream_17 rfl ?_
    refine g_iload_n X 1 rfl dX5_stream_20 rfl ?_
    refine g_aald X (t := 5) rfl (hB.now.mem (i := 2) (by decide) (by decide)) hB.now.strs ⟨by omega, by omega⟩ (by decide) (if_pos (by omega)) dX5_stream_21 rfl ?_
    have hw_2 : M (Sg 0 (20 + i)) = .inr (4, [.int (iI (c (70 + 10 * i))), .int (iI (c (70 + 10 * i + 1))), .int (iI (c (70 + 10 * i + 2))), .int (iI (c (70 + 10 * i + 3))), .int (iI (c (70 + 10 * i + 4))), .int (iI (c (70 + 10 * i + 5))), .int (iI (c (70 + 10 * i + 6))), .int (iI (c (70 + 10 * i + 7)))]) := (hB.now.row (by omega) (by omega))
    refine g_astore_n X (lv' := [(3, .ref (Sg 0 (20 + i))), (0, .ref (Sg 10 0)), (1, .int (iI i)), (2, .int (iI w))]) (by decide) rfl dX5_stream_22 rfl ?_
    refine g_iload_n X 3 rfl dX5_stream_23 rfl ?_
    refine g_bipush X (z := 8) (by decide +kernel) dX5_stream_24 rfl ?_
    refine g_icmp_ne X hw ⟨by decide, by decide⟩ (tgt := 40) dX5_stream_26 (by decide) rfl (fun h_3 => ?_) (fun h_3 => ?_)
    · refine g_aload_n X 0 rfl dX5_stream_40 rfl ?_
      refine g_iload_n X 3 rfl dX5_stream_41 rfl ?_
      have hqi := hRR i (by omega) (by omega)
      have hIi := hI.2.2 i (by omega) (by omega)
      refine g_callVN X (ct_X4_tell l (Sg 0 (20 + i)) (fRow c i) w) (host := "StrideBanks") (As := [.int (iI w)]) (rest := []) cl_X4 rfl ca_X4_tell rfl wm_X5_122 wi_X4_tell ws_X4_tell wc_X4_tell w0_X4 ⟨by decide, by decide⟩ (hB.now.mem (by omega) (by omega)) hw_2 (by decide) ⟨by decide, by decide⟩ rfl dX5_stream_42 rfl ⟨rfl, (hB.now.mem (by omega) (by omega)), (hw_2).trans (cRow_eq _ _), hw, (hR.rows hI i (by omega) (by omega)).1, (hR.rows hI i (by omega) (by omega)).2.1, (hR.rows hI i (by omega) (by omega)).2.2⟩ (fun r1 L1 M1 hq => ?_)
      obtain ⟨rfl, rfl, rfl⟩ := hq
      refine g_st (st' := [.int (iI (rwTell (fRow c i) w))]) rfl ?_
      exact g_iret X hret ⟨Nat.le_of_ble_eq_true rfl, Nat.le_of_ble_eq_true rfl⟩ dX5_stream_45 ⟨by rw [tell_eq hR hI (by omega) (by omega) (by omega)], rfl, hB.fin hR hO⟩
    · refine g_aload_n X 1 rfl dX5_stream_29 rfl ?_
      refine g_get X cl_X5 0 (by decide) wf_X5_10 rfl (hA.mem (s := 10) (k := 0) (by unfold inD; omega)) hB.obj rfl dX5_stream_30 rfl ?_
      refine g_aload_n X 0 rfl dX5_stream_33 rfl ?_
      refine g_callVN X (ct_X3_banksMet l (Sg 0) c g i) (host := "StrideBanks") (As := [.ref (Sg 0 (20 + i))]) (rest := []) cl_X3 rfl ca_X3_banksMet rfl wm_X5_118 wi_X3_banksMet ws_X3_banksMet wc_X3_banksMet w0_X3 ⟨by decide, by decide⟩ (hB.now.mem (i := 0) (by decide) (by decide)) hB.now.obj (by decide) ⟨by decide, by decide⟩ rfl dX5_stream_34 rfl ⟨rfl, hB.now, hR, hI, by omega, by omega⟩ (fun r1 L1 M1 hq => ?_)
      obtain ⟨rfl, rfl, rfl⟩ := hq
      refine g_st (st' := [.int (mtV g i)]) rfl ?_
      refine g_goto X (n := 45) dX5_stream_37 (by decide) ?_
      exact g_iret X hret ⟨Nat.le_of_ble_eq_true rfl, Nat.le_of_ble_eq_true rfl⟩ dX5_stream_45 ⟨by rw [meet_eq (by omega) (by omega) (by omega)], rfl, hB.fin hR hO⟩
  · refine g_iconst X (z := -1) dX5_stream_11 rfl ?_
    have hn : ¬ isStr g i := by unfold isStr; omega
    exact g_iret X hret ⟨Nat.le_of_ble_eq_true rfl, Nat.le_of_ble_eq_true rfl⟩ dX5_stream_12 ⟨by rw [anStream, if_neg hn], rfl, hB.fin hR hO⟩
