/-! the class: its history -/
set_option maxRecDepth 100000 in
set_option maxHeartbeats 4000000 in
theorem ct_X1_forgetOldest (l : Launch) (Sg : Int → Int → Nat) (st : Int) (be : Int → Int) : Ct l yX1_forgetOldest cX1_forgetOldest 3 none 0 0 0 (fun ca av L M => av = [.ref (Sg 10 1)] ∧ Adr L Sg ∧ HS ca L M Sg st be ∧ st = 6 ∧ (∀ j, 0 ≤ j → j < 6 → blk (110 * j) be 5 ≤ 4)) (fun ca av L M r L1 M1 => r = none ∧ L = L1 ∧ HS ca L M1 Sg 5 (shf 550 be) ∧ ∀ x, x ≠ Sg 10 1 → x ≠ Sg 10 2 → M1 x = M x) := by
  refine Ct_of (own := RX1) (by decide) rfl (by rintro _ _ _ _ ⟨rfl, _⟩; exact Nat.le_of_ble_eq_true rfl) ?_
  rintro p e s m args below meth cod D ca A av L M ⟨rfl, hA, hH, hst, hb⟩ X hret hname
  refine g_lv (lv' := [(0, .ref (Sg 10 1))]) [0] rfl ?_
  generalize hQ : MQ below _ args s _ _ A = Q
  obtain ⟨π, hπ, hH1, hH2, hHs⟩ := hH
  have lp : ∀ (n : Nat) (y : Int) (M1 : Mem) (f : Int → Option Nat) (hy0 : 1 ≤ y) (hy1 : y ≤ 6) (hf : f = mvq Sg π y) (hM1 : M1 (Sg 10 1) = oHi Sg st) (hM2 : M1 (Sg 10 2) = cR ca 4 6 f) (hfr : ∀ x, x ≠ Sg 10 2 → M1 x = M x) (hm : 6 - y < (n : Int)), G p l e (Rm 0 0 0) s m args below meth cod D A 3 Q 0 0 L M1 9 [(0, .ref (Sg 10 1)), (1, .ref (Sg (4 + π 0) 0)), (2, .int (iI y))] [] := by
    intro n
    induction n with
    | zero =>
      intro y M1 f hy0 hy1 hf hM1 hM2 hfr hm
      exfalso; omega
    | succ n ih =>
      intro y M1 f hy0 hy1 hf hM1 hM2 hfr hm
      obtain ⟨cA_1, hsA_1, hrA_1⟩ := hHs 0 (by omega) (by omega)
      have hpA_1 := hπ.1 0 (by omega) (by omega)
      have hw_2 : M1 (Sg (4 + π 0) 0) = .inr (3, [.ref (Sg (4 + π 0) 1), .ref (Sg (4 + π 0) 2), .ref (Sg (4 + π 0) 3), .int (iI (cA_1 5)), .int (iI (cA_1 4))]) := ((hfr (Sg (4 + π 0) 0) (hA.ne (by unfold inD; omega) (by unfold inD; omega) (by omega))).trans hsA_1.obj)
      refine g_iload_n X 2 rfl dX1_forgetOldest_9 rfl ?_
      refine g_bipush X (z := 6) (by decide +kernel) dX1_forgetOldest_10 rfl ?_
      refine g_icmp_ge X ⟨by omega, by omega⟩ ⟨by decide, by decide⟩ (tgt := 35) dX1_forgetOldest_12 (by decide) rfl (fun h_3 => ?_) (fun h_3 => ?_)
      · refine g_aload_n X 0 rfl dX1_forgetOldest_35 rfl ?_
        refine g_get X cl_X1 0 (by decide) wf_X1_11 rfl (hA.mem (s := 10) (k := 1) (by unfold inD; omega)) hM1 rfl dX1_forgetOldest_36 rfl ?_
        refine g_iconst X (z := 5) dX1_forgetOldest_39 rfl ?_
        refine g_aload_n X 1 rfl dX1_forgetOldest_40 rfl ?_
        refine g_aast X (t := 4) rfl (ci := 3) rfl (hA.mem (s := 10) (k := 2) (by unfold inD; omega)) hM2 (hsA_1.mem (i := 0) (by decide) (by decide)) hw_2 ⟨by decide, by decide⟩ (by decide) dX1_forgetOldest_41 rfl (fun M_4 hM_5 fr_6 => ?_)
        have hM_7 : M_4 (Sg 10 1) = .inr (1, [.ref (Sg 10 2), .int (iI st)]) := (fr_6 (Sg 10 1) (hA.ne (by unfold inD; omega) (by unfold inD; omega) (by omega))).trans hM1
        have hM_8 : M_4 (Sg (4 + π 0) 0) = .inr (3, [.ref (Sg (4 + π 0) 1), .ref (Sg (4 + π 0) 2), .ref (Sg (4 + π 0) 3), .int (iI (cA_1 5)), .int (iI (cA_1 4))]) := (fr_6 (Sg (4 + π 0) 0) (hA.ne (by unfold inD; omega) (by unfold inD; omega) (by omega))).trans hw_2
        refine g_aload_n X 0 rfl dX1_forgetOldest_42 rfl ?_
        refine g_dup X rfl dX1_forgetOldest_43 rfl ?_
        refine g_get X cl_X1 1 (by decide) wf_X1_18 rfl (hA.mem (s := 10) (k := 1) (by unfold inD; omega)) hM_7 rfl dX1_forgetOldest_44 rfl ?_
        refine g_iconst X (z := 1) dX1_forgetOldest_47 rfl ?_
        refine g_isub X dX1_forgetOldest_48 rfl ?_
        refine g_put X cl_X1 1 (by decide) wf_X1_18 rfl (hA.mem (s := 10) (k := 1) (by unfold inD; omega)) hM_7 rfl rfl rfl (Nat.le_of_ble_eq_true rfl) (fs' := [.ref (Sg 10 2), .int (iI (st - 1))]) rfl dX1_forgetOldest_49 rfl (fun M_9 hM_10 fr_11 => ?_)
        have hM_12 : M_9 (Sg (4 + π 0) 0) = .inr (3, [.ref (Sg (4 + π 0) 1), .ref (Sg (4 + π 0) 2), .ref (Sg (4 + π 0) 3), .int (iI (cA_1 5)), .int (iI (cA_1 4))]) := (fr_11 (Sg (4 + π 0) 0) (hA.ne (by unfold inD; omega) (by unfold inD; omega) (by omega))).trans hM_8
        have hM_13 : M_9 (Sg 10 2) = cR ca 4 6 (up f 5 (some (Sg (4 + π 0) 0))) := (fr_11 (Sg 10 2) (hA.ne (by unfold inD; omega) (by unfold inD; omega) (by omega))).trans hM_5
        subst hQ
        have hfr2 : ∀ x, x ≠ Sg 10 1 → x ≠ Sg 10 2 → M_9 x = M x := (fun x h1 h2 => ((fr_11 x h1).trans ((fr_6 x h2).trans (hfr x h2))))
        have hfin : ∀ j, 0 ≤ j → j < 6 → ∃ c, isSt ca L M_9 (Sg (4 + mvP π j)) c ∧ (j < 5 → Rel c (blk (110 * j) (shf 550 be))) := by
          intro j j0 j1
          by_cases e : j = 5
          · obtain ⟨c1, k1, k2⟩ := hHs 0 (by decide) (by decide)
            have hp := hπ.1 0 (by decide) (by decide)
            have e2 : mvP π j = π 0 := if_pos e
            rw [e2]
            exact ⟨c1, k1.kept (fun i i0 i1 => hfr2 _ (hA.ne (by unfold inD; omega) (by unfold inD; omega) (by omega)) (hA.ne (by unfold inD; omega) (by unfold inD; omega) (by omega))), fun h => absurd h (by omega)⟩
          · obtain ⟨c1, k1, k2⟩ := hHs (j + 1) (by omega) (by omega)
            have hp := hπ.1 (j + 1) (by omega) (by omega)
            have e2 : mvP π j = π (j + 1) := if_neg e
            rw [e2]
            exact ⟨c1, k1.kept (fun i i0 i1 => hfr2 _ (hA.ne (by unfold inD; omega) (by unfold inD; omega) (by omega)) (hA.ne (by unfold inD; omega) (by unfold inD; omega) (by omega))), fun h => rel_shf j0 h (k2 (by omega)) (hb _ (by omega) (by omega))⟩
        exact g_vret X hret ⟨Nat.le_of_ble_eq_true rfl, Nat.le_of_ble_eq_true rfl⟩ dX1_forgetOldest_52 ⟨rfl, rfl, ⟨mvP π, mvP_ok hπ, hM_10.trans (by rw [hst]; rfl), hM_13.trans (by rw [hf, show y = 6 from by omega]; exact mv_end Sg π), hfin⟩, hfr2⟩
      · refine g_aload_n X 0 rfl dX1_forgetOldest_15 rfl ?_
        refine g_get X cl_X1 0 (by decide) wf_X1_11 rfl (hA.mem (s := 10) (k := 1) (by unfold inD; omega)) hM1 rfl dX1_forgetOldest_16 rfl ?_
        refine g_iload_n X 2 rfl dX1_forgetOldest_19 rfl ?_
        refine g_iconst X (z := 1) dX1_forgetOldest_20 rfl ?_
        refine g_isub X dX1_forgetOldest_21 rfl ?_
        refine g_aload_n X 0 rfl dX1_forgetOldest_22 rfl ?_
        refine g_get X cl_X1 0 (by decide) wf_X1_11 rfl (hA.mem (s := 10) (k := 1) (by unfold inD; omega)) hM1 rfl dX1_forgetOldest_23 rfl ?_
        refine g_iload_n X 2 rfl dX1_forgetOldest_26 rfl ?_
        refine g_aald X (t := 4) rfl (hA.mem (s := 10) (k := 2) (by unfold inD; omega)) hM2 ⟨by omega, by omega⟩ (by decide) (by rw [hf, mvq, if_pos (by omega), if_neg (by omega)]) dX1_forgetOldest_27 rfl ?_
        obtain ⟨cA_14, hsA_14, hrA_14⟩ := hHs y (by omega) (by omega)
        have hpA_14 := hπ.1 y (by omega) (by omega)
        have hw_15 : M1 (Sg (4 + π y) 0) = .inr (3, [.ref (Sg (4 + π y) 1), .ref (Sg (4 + π y) 2), .ref (Sg (4 + π y) 3), .int (iI (cA_14 5)), .int (iI (cA_14 4))]) := ((hfr (Sg (4 + π y) 0) (hA.ne (by unfold inD; omega) (by unfold inD; omega) (by omega))).trans hsA_14.obj)
        refine g_aast X (t := 4) rfl (ci := 3) rfl (hA.mem (s := 10) (k := 2) (by unfold inD; omega)) hM2 (hsA_14.mem (i := 0) (by decide) (by decide)) hw_15 ⟨by omega, by omega⟩ (by decide) dX1_forgetOldest_28 rfl (fun M_16 hM_17 fr_18 => ?_)
        have hM_19 : M_16 (Sg 10 1) = .inr (1, [.ref (Sg 10 2), .int (iI st)]) := (fr_18 (Sg 10 1) (hA.ne (by unfold inD; omega) (by unfold inD; omega) (by omega))).trans hM1
        have hM_20 : M_16 (Sg (4 + π 0) 0) = .inr (3, [.ref (Sg (4 + π 0) 1), .ref (Sg (4 + π 0) 2), .ref (Sg (4 + π 0) 3), .int (iI (cA_1 5)), .int (iI (cA_1 4))]) := (fr_18 (Sg (4 + π 0) 0) (hA.ne (by unfold inD; omega) (by unfold inD; omega) (by omega))).trans hw_2
        have hM_21 : M_16 (Sg (4 + π y) 0) = .inr (3, [.ref (Sg (4 + π y) 1), .ref (Sg (4 + π y) 2), .ref (Sg (4 + π y) 3), .int (iI (cA_14 5)), .int (iI (cA_14 4))]) := (fr_18 (Sg (4 + π y) 0) (hA.ne (by unfold inD; omega) (by unfold inD; omega) (by omega))).trans hw_15
        refine g_iinc X (lv' := [(2, .int (iI (y + 1))), (0, .ref (Sg 10 1)), (1, .ref (Sg (4 + π 0) 0))]) 2 rfl (by decide) rfl dX1_forgetOldest_29 rfl ?_
        refine g_goto X (n := 9) dX1_forgetOldest_32 (by decide) ?_
        refine g_lv (lv' := [(0, .ref (Sg 10 1)), (1, .ref (Sg (4 + π 0) 0)), (2, .int (iI (y + 1)))]) [1, 2, 0] rfl ?_
        exact ih _ _ _ (by omega) (by omega) (by rw [hf, mvq_up Sg π (by omega) (by omega)]) hM_19 hM_17 (fun x hx => (fr_18 x hx).trans (hfr x hx)) (by omega)
  refine g_aload_n X 0 rfl dX1_forgetOldest_0 rfl ?_
  refine g_get X cl_X1 0 (by decide) wf_X1_11 rfl (hA.mem (s := 10) (k := 1) (by unfold inD; omega)) hH1 rfl dX1_forgetOldest_1 rfl ?_
  refine g_iconst X (z := 0) dX1_forgetOldest_4 rfl ?_
  refine g_aald X (t := 4) rfl (hA.mem (s := 10) (k := 2) (by unfold inD; omega)) hH2 ⟨by decide, by decide⟩ (by decide) (if_pos (by omega)) dX1_forgetOldest_5 rfl ?_
  obtain ⟨cA_22, hsA_22, hrA_22⟩ := hHs 0 (by omega) (by omega)
  have hpA_22 := hπ.1 0 (by omega) (by omega)
  have hw_23 : M (Sg (4 + π 0) 0) = .inr (3, [.ref (Sg (4 + π 0) 1), .ref (Sg (4 + π 0) 2), .ref (Sg (4 + π 0) 3), .int (iI (cA_22 5)), .int (iI (cA_22 4))]) := hsA_22.obj
  refine g_astore_n X (lv' := [(1, .ref (Sg (4 + π 0) 0)), (0, .ref (Sg 10 1))]) (by decide) rfl dX1_forgetOldest_6 rfl ?_
  refine g_iconst X (z := 1) dX1_forgetOldest_7 rfl ?_
  refine g_istore_n X (lv' := [(2, .int (iI 1)), (1, .ref (Sg (4 + π 0) 0)), (0, .ref (Sg 10 1))]) (by decide) rfl dX1_forgetOldest_8 rfl ?_
  refine g_lv (lv' := [(0, .ref (Sg 10 1)), (1, .ref (Sg (4 + π 0) 0)), (2, .int (iI 1))]) [2, 1, 0] rfl ?_
  exact lp 9 _ _ _ (by decide) (by decide) (mvq_0 Sg π) hH1 hH2 (fun _ _ => rfl) (by decide)
set_option maxRecDepth 100000 in
set_option maxHeartbeats 4000000 in
theorem ct_X1_record (l : Launch) (Sg : Int → Int → Nat) (st : Int) (be : Int → Int) (c g : Int → Int) : Ct l yX1_record cX1_record 2 none 3 0 0 (fun ca av L M => av = [.ref (Sg 10 1), .ref (Sg 0 0)] ∧ Adr L Sg ∧ HS ca L M Sg st be ∧ (0 ≤ st ∧ st ≤ 6) ∧ isSt ca L M (Sg 0) c ∧ Rel c g ∧ g 5 ≤ 4 ∧ (∀ j, 0 ≤ j → j < st → blk (110 * j) be 5 ≤ 4)) (fun ca av L M r L1 M1 => r = none ∧ L = L1 ∧ HS ca L M1 Sg (recN st) (recB st be g) ∧ isSt ca L M1 (Sg 0) c ∧ ∀ x, (∀ k, 1 ≤ k → k ≤ 2 → x ≠ Sg 10 k) → (∀ s k, 4 ≤ s → s < 10 → 0 ≤ k → k < 24 → x ≠ Sg s k) → M1 x = M x) := by
  refine Ct_of (own := RX1) (by decide) rfl (by rintro _ _ _ _ ⟨rfl, _⟩; exact Nat.le_of_ble_eq_true rfl) ?_
  rintro p e s m args below meth cod D ca A av L M ⟨rfl, hA, hH, hst, hs, hR, hg5, hb⟩ X hret hname
  refine g_lv (lv' := [(0, .ref (Sg 10 1)), (1, .ref (Sg 0 0))]) [0, 1] rfl ?_
  generalize hQ : MQ below _ args s _ _ A = Q
  have tl : ∀ (t : Int) (be2 : Int → Int) (M1 : Mem) (ht : t = recT st) (hbe : be2 = recE st be) (ht5 : 0 ≤ t ∧ t ≤ 5) (hH1 : HS ca L M1 Sg t be2) (hs1 : isSt ca L M1 (Sg 0) c) (hb2 : ∀ j, 0 ≤ j → j < t → blk (110 * j) be2 5 ≤ 4) (hfr : ∀ x, (∀ k, 1 ≤ k → k ≤ 2 → x ≠ Sg 10 k) → (∀ s k, 4 ≤ s → s < 10 → 0 ≤ k → k < 24 → x ≠ Sg s k) → M1 x = M x), G p l e (Rm 3 0 0) s m args below meth cod D A 2 Q 0 0 L M1 13 [(0, .ref (Sg 10 1)), (1, .ref (Sg 0 0))] [] := by
    intro t be2 M1 ht hbe ht5 hH2 hs1 hb2 hfr
    obtain ⟨π, hπ, hH1, hH2, hHs⟩ := hH2
    refine g_aload_n X 0 rfl dX1_record_13 rfl ?_
    refine g_get X cl_X1 0 (by decide) wf_X1_11 rfl (hA.mem (s := 10) (k := 1) (by unfold inD; omega)) hH1 rfl dX1_record_14 rfl ?_
    refine g_aload_n X 0 rfl dX1_record_17 rfl ?_
    refine g_get X cl_X1 1 (by decide) wf_X1_18 rfl (hA.mem (s := 10) (k := 1) (by unfold inD; omega)) hH1 rfl dX1_record_18 rfl ?_
    refine g_aald X (t := 4) rfl (hA.mem (s := 10) (k := 2) (by unfold inD; omega)) hH2 ⟨by omega, by omega⟩ (by decide) (if_pos (by omega)) dX1_record_21 rfl ?_
    obtain ⟨cA_1, hsA_1, hrA_1⟩ := hHs t (by omega) (by omega)
    have hpA_1 := hπ.1 t (by omega) (by omega)
    have hw_2 : M1 (Sg (4 + π t) 0) = .inr (3, [.ref (Sg (4 + π t) 1), .ref (Sg (4 + π t) 2), .ref (Sg (4 + π t) 3), .int (iI (cA_1 5)), .int (iI (cA_1 4))]) := hsA_1.obj
    refine g_aload_n X 1 rfl dX1_record_22 rfl ?_
    refine g_callVN X (ct_X3_copy l (Sg (4 + π t)) cA_1 (Sg 0) c) (host := "StrideBanks") (As := [.ref (Sg 0 0)]) (rest := []) cl_X3 rfl ca_X3_copy rfl wm_X1_25 wi_X3_copy ws_X3_copy wc_X3_copy w0_X3 ⟨by decide, by decide⟩ (hsA_1.mem (i := 0) (by decide) (by decide)) hw_2 (by decide) ⟨by decide, by decide⟩ rfl dX1_record_23 rfl ⟨rfl, hsA_1, hs1, fun i j i0 i1 j0 j1 => hA.ne (by unfold inD; omega) (by unfold inD; omega) (by omega)⟩ (fun r1 L1 M_3 hq => ?_)
    obtain ⟨rfl, rfl, hs_4, hs_5, fr_6⟩ := hq
    have hM_7 : M_3 (Sg 10 1) = .inr (1, [.ref (Sg 10 2), .int (iI t)]) := (fr_6 _ (fun j j0 j1 => hA.ne (by unfold inD; omega) (by unfold inD; omega) (by omega))).trans hH1
    have hM_8 : M_3 (Sg 10 2) = cR ca 4 6 (hsq Sg π) := (fr_6 _ (fun j j0 j1 => hA.ne (by unfold inD; omega) (by unfold inD; omega) (by omega))).trans hH2
    refine g_st (st' := []) rfl ?_
    refine g_aload_n X 0 rfl dX1_record_26 rfl ?_
    refine g_dup X rfl dX1_record_27 rfl ?_
    refine g_get X cl_X1 1 (by decide) wf_X1_18 rfl (hA.mem (s := 10) (k := 1) (by unfold inD; omega)) hM_7 rfl dX1_record_28 rfl ?_
    refine g_iconst X (z := 1) dX1_record_31 rfl ?_
    refine g_iadd X dX1_record_32 rfl ?_
    refine g_put X cl_X1 1 (by decide) wf_X1_18 rfl (hA.mem (s := 10) (k := 1) (by unfold inD; omega)) hM_7 rfl rfl rfl (Nat.le_of_ble_eq_true rfl) (fs' := [.ref (Sg 10 2), .int (iI (t + 1))]) rfl dX1_record_33 rfl (fun M_9 hM_10 fr_11 => ?_)
    have hM_12 : M_9 (Sg 10 2) = cR ca 4 6 (hsq Sg π) := (fr_11 (Sg 10 2) (hA.ne (by unfold inD; omega) (by unfold inD; omega) (by omega))).trans hM_8
    subst hQ
    have hfin : ∀ j, 0 ≤ j → j < 6 → ∃ c, isSt ca L M_9 (Sg (4 + π j)) c ∧ (j < t + 1 → Rel c (blk (110 * j) (pbl 110 (110 * t) be2 g))) := by
      intro j j0 j1
      have hp := hπ.1 j j0 j1
      by_cases e : j = t
      · rw [e]; exact ⟨c, hs_4.kept (fun i i0 i1 => fr_11 _ (hA.ne (by unfold inD; omega) (by unfold inD; omega) (by omega))), fun _ => rel_put hR hg5⟩
      · obtain ⟨c1, k1, k2⟩ := hHs j j0 j1
        have hne : π j ≠ π t := fun h => e (hπ.2 j t j0 j1 (by omega) (by omega) h)
        exact ⟨c1, k1.kept (fun i i0 i1 => (fr_11 _ (hA.ne (by unfold inD; omega) (by unfold inD; omega) (by omega))).trans (fr_6 _ (fun j j0 j1 => hA.ne (by unfold inD; omega) (by unfold inD; omega) (by omega)))), fun h => rel_keep j0 e (k2 (by omega)) (hb2 j j0 (by omega))⟩
    exact g_vret X hret ⟨Nat.le_of_ble_eq_true rfl, Nat.le_of_ble_eq_true rfl⟩ dX1_record_36 ⟨rfl, rfl, by rw [recN, recB, ← ht, ← hbe]; exact ⟨π, hπ, hM_10, hM_12, hfin⟩, hs_5.kept (fun i i0 i1 => fr_11 _ (hA.ne (by unfold inD; omega) (by unfold inD; omega) (by omega))), fun x hx hx2 => (fr_11 x (hx 1 (by decide) (by decide))).trans ((fr_6 x (fun j j0 j1 => hx2 _ j (by omega) (by omega) j0 j1)).trans (hfr x hx hx2))⟩
  obtain ⟨π, hπ, hH1, hH2, hHs⟩ := id hH
  refine g_aload_n X 0 rfl dX1_record_0 rfl ?_
  refine g_get X cl_X1 1 (by decide) wf_X1_18 rfl (hA.mem (s := 10) (k := 1) (by unfold inD; omega)) hH1 rfl dX1_record_1 rfl ?_
  refine g_bipush X (z := 6) (by decide +kernel) dX1_record_4 rfl ?_
  refine g_icmp_ne X ⟨by omega, by omega⟩ ⟨by decide, by decide⟩ (tgt := 13) dX1_record_6 (by decide) rfl (fun h_13 => ?_) (fun h_13 => ?_)
  · refine g_lv (lv' := [(0, .ref (Sg 10 1)), (1, .ref (Sg 0 0))]) [0, 1] rfl ?_
    exact tl st be M (by rw [recT, if_neg (by omega)]) (by rw [recE, if_neg (by omega)]) (by omega) hH hs hb (fun _ _ _ => rfl)
  · refine g_aload_n X 0 rfl dX1_record_9 rfl ?_
    refine g_callV X (ct_X1_forgetOldest l Sg st be) (As := []) (rest := []) cl_X1 rfl ca_X1_forgetOldest rfl wm_X1_22 wi_X1_forgetOldest ws_X1_forgetOldest wc_X1_forgetOldest w0_X1 ⟨by decide, by decide⟩ (hA.mem (s := 10) (k := 1) (by unfold inD; omega)) hH1 (by decide) ⟨by decide, by decide⟩ rfl dX1_record_10 rfl ⟨rfl, hA, hH, by omega, fun j j0 j1 => hb j j0 (by omega)⟩ (fun r1 L1 M_14 hq => ?_)
    obtain ⟨rfl, rfl, hH_15, fr_16⟩ := hq
    refine g_st (st' := []) rfl ?_
    refine g_lv (lv' := [(0, .ref (Sg 10 1)), (1, .ref (Sg 0 0))]) [0, 1] rfl ?_
    exact tl 5 (shf 550 be) _ (by rw [recT, if_pos (by omega)]; omega) (by rw [recE, if_pos (by omega)]) (by decide) hH_15 (hs.kept (fun i i0 i1 => fr_16 _ (hA.ne (by unfold inD; omega) (by unfold inD; omega) (by omega)) (hA.ne (by unfold inD; omega) (by unfold inD; omega) (by omega)))) (fun j j0 j1 => by have := hb (j + 1) (by omega) (by omega); unfold blk at this ⊢; rw [shf, if_pos (by omega), show 110 + (110 * j + 5) = 110 * (j + 1) + 5 by omega]; exact this) (fun x hx _ => fr_16 x (hx 1 (by decide) (by decide)) (hx 2 (by decide) (by decide)))
set_option maxRecDepth 100000 in
set_option maxHeartbeats 4000000 in
theorem ct_X1_takeBack (l : Launch) (Sg : Int → Int → Nat) (st : Int) (be : Int → Int) (c : Int → Int) : Ct l yX1_takeBack cX1_takeBack 2 none 3 0 0 (fun ca av L M => av = [.ref (Sg 10 1), .ref (Sg 0 0)] ∧ Adr L Sg ∧ HS ca L M Sg st be ∧ (0 < st ∧ st ≤ 6) ∧ isSt ca L M (Sg 0) c) (fun ca av L M r L1 M1 => r = none ∧ L = L1 ∧ HS ca L M1 Sg (st - 1) be ∧ (∃ c1, isSt ca L M1 (Sg 0) c1 ∧ Rel c1 (blk (110 * (st - 1)) be)) ∧ ∀ x, x ≠ Sg 10 1 → (∀ k, 0 ≤ k → k < 24 → x ≠ Sg 0 k) → M1 x = M x) := by
  refine Ct_of (own := RX1) (by decide) rfl (by rintro _ _ _ _ ⟨rfl, _⟩; exact Nat.le_of_ble_eq_true rfl) ?_
  rintro p e s m args below meth cod D ca A av L M ⟨rfl, hA, hH, hst, hs⟩ X hret hname
  refine g_lv (lv' := [(0, .ref (Sg 10 1)), (1, .ref (Sg 0 0))]) [0, 1] rfl ?_
  obtain ⟨π, hπ, hH1, hH2, hHs⟩ := hH
  refine g_aload_n X 0 rfl dX1_takeBack_0 rfl ?_
  refine g_get X cl_X1 1 (by decide) wf_X1_18 rfl (hA.mem (s := 10) (k := 1) (by unfold inD; omega)) hH1 rfl dX1_takeBack_1 rfl ?_
  refine g_if_ne X ⟨by omega, by omega⟩ (tgt := 8) dX1_takeBack_4 (by decide) rfl (fun h_1 => ?_) (fun h_1 => ?_)
  · refine g_aload_n X 0 rfl dX1_takeBack_8 rfl ?_
    refine g_dup X rfl dX1_takeBack_9 rfl ?_
    refine g_get X cl_X1 1 (by decide) wf_X1_18 rfl (hA.mem (s := 10) (k := 1) (by unfold inD; omega)) hH1 rfl dX1_takeBack_10 rfl ?_
    refine g_iconst X (z := 1) dX1_takeBack_13 rfl ?_
    refine g_isub X dX1_takeBack_14 rfl ?_
    refine g_put X cl_X1 1 (by decide) wf_X1_18 rfl (hA.mem (s := 10) (k := 1) (by unfold inD; omega)) hH1 rfl rfl rfl (Nat.le_of_ble_eq_true rfl) (fs' := [.ref (Sg 10 2), .int (iI (st - 1))]) rfl dX1_takeBack_15 rfl (fun M_2 hM_3 fr_4 => ?_)
    have hM_5 : M_2 (Sg 10 2) = cR ca 4 6 (hsq Sg π) := (fr_4 (Sg 10 2) (hA.ne (by unfold inD; omega) (by unfold inD; omega) (by omega))).trans hH2
    refine g_aload_n X 1 rfl dX1_takeBack_18 rfl ?_
    refine g_aload_n X 0 rfl dX1_takeBack_19 rfl ?_
    refine g_get X cl_X1 0 (by decide) wf_X1_11 rfl (hA.mem (s := 10) (k := 1) (by unfold inD; omega)) hM_3 rfl dX1_takeBack_20 rfl ?_
    refine g_aload_n X 0 rfl dX1_takeBack_23 rfl ?_
    refine g_get X cl_X1 1 (by decide) wf_X1_18 rfl (hA.mem (s := 10) (k := 1) (by unfold inD; omega)) hM_3 rfl dX1_takeBack_24 rfl ?_
    refine g_aald X (t := 4) rfl (hA.mem (s := 10) (k := 2) (by unfold inD; omega)) hM_5 ⟨by omega, by omega⟩ (by decide) (if_pos (by omega)) dX1_takeBack_27 rfl ?_
    obtain ⟨cA_6, hsA_6, hrA_6⟩ := hHs (st - 1) (by omega) (by omega)
    have hpA_6 := hπ.1 (st - 1) (by omega) (by omega)
    have hw_7 : M_2 (Sg (4 + π (st - 1)) 0) = .inr (3, [.ref (Sg (4 + π (st - 1)) 1), .ref (Sg (4 + π (st - 1)) 2), .ref (Sg (4 + π (st - 1)) 3), .int (iI (cA_6 5)), .int (iI (cA_6 4))]) := ((fr_4 (Sg (4 + π (st - 1)) 0) (hA.ne (by unfold inD; omega) (by unfold inD; omega) (by omega))).trans hsA_6.obj)
    have hsN := hs.kept (M1 := M_2) (fun i i0 i1 => fr_4 _ (hA.ne (by unfold inD; omega) (by unfold inD; omega) (by omega)))
    have hsO := hsA_6.kept (M1 := M_2) (fun i i0 i1 => fr_4 _ (hA.ne (by unfold inD; omega) (by unfold inD; omega) (by omega)))
    refine g_callVN X (ct_X3_copy l (Sg 0) c (Sg (4 + π (st - 1))) cA_6) (host := "StrideBanks") (As := [.ref (Sg (4 + π (st - 1)) 0)]) (rest := []) cl_X3 rfl ca_X3_copy rfl wm_X1_25 wi_X3_copy ws_X3_copy wc_X3_copy w0_X3 ⟨by decide, by decide⟩ (hsN.mem (i := 0) (by decide) (by decide)) hsN.obj (by decide) ⟨by decide, by decide⟩ rfl dX1_takeBack_28 rfl ⟨rfl, hsN, hsO, fun i j i0 i1 j0 j1 => hA.ne (by unfold inD; omega) (by unfold inD; omega) (by omega)⟩ (fun r1 L1 M_8 hq => ?_)
    obtain ⟨rfl, rfl, hs_9, hs_10, fr_11⟩ := hq
    have hM_12 : M_8 (Sg 10 2) = cR ca 4 6 (hsq Sg π) := (fr_11 _ (fun j j0 j1 => hA.ne (by unfold inD; omega) (by unfold inD; omega) (by omega))).trans hM_5
    have hM_13 : M_8 (Sg 10 1) = .inr (1, [.ref (Sg 10 2), .int (iI (st - 1))]) := (fr_11 _ (fun j j0 j1 => hA.ne (by unfold inD; omega) (by unfold inD; omega) (by omega))).trans hM_3
    refine g_st (st' := []) rfl ?_
    have hfin : ∀ j, 0 ≤ j → j < 6 → ∃ c, isSt ca L M_8 (Sg (4 + π j)) c ∧ (j < st - 1 → Rel c (blk (110 * j) be)) := by
      intro j j0 j1
      have hp := hπ.1 j j0 j1
      obtain ⟨c1, k1, k2⟩ := hHs j j0 j1
      exact ⟨c1, k1.kept (fun i i0 i1 => (fr_11 _ (fun j j0 j1 => hA.ne (by unfold inD; omega) (by unfold inD; omega) (by omega))).trans (fr_4 _ (hA.ne (by unfold inD; omega) (by unfold inD; omega) (by omega)))), fun h => k2 (by omega)⟩
    exact g_vret X hret ⟨Nat.le_of_ble_eq_true rfl, Nat.le_of_ble_eq_true rfl⟩ dX1_takeBack_31 ⟨rfl, rfl, ⟨π, hπ, hM_13, hM_12, hfin⟩, ⟨_, hs_9, hrA_6 (by omega)⟩, fun x hx hx2 => (fr_11 x (fun j j0 j1 => hx2 j j0 j1)).trans (fr_4 x hx)⟩
  · exact absurd (Decidable.not_not.mp h_1) (by omega)
