/-! the class: what if -/
theorem bsF_1 (g : Int → Int) (i a : Int) : bsF g i a 1 = (a, cwC g i a) := by
  have h := ro_rng (g := bgaG (cwG g i a)) 20000
  have e : a + ((0 : Nat) : Int) = a := by omega
  have h2 : cwC g i a < 1000000 := by unfold cwC; omega
  have s : bsF g i a 1 = (if cwC g i (a + ((0 : Nat) : Int)) < (bsF g i a 0).2 then a + ((0 : Nat) : Int) else (bsF g i a 0).1, if cwC g i (a + ((0 : Nat) : Int)) < (bsF g i a 0).2 then cwC g i (a + ((0 : Nat) : Int)) else (bsF g i a 0).2) := rfl
  rw [s, e, if_pos (show cwC g i a < (bsF g i a 0).2 from h2), if_pos (show cwC g i a < (bsF g i a 0).2 from h2)]
theorem bmF_1 (g : Int → Int) : bmF g 1 = (0, mpC g 0) := by
  have h := ro_rng (g := bgaG (up g 2 0)) 20000
  have h2 : mpC g 0 < 1000000 := by unfold mpC; omega
  have s : bmF g 1 = (if mpC g 0 < (bmF g 0).2 then 0 else (bmF g 0).1, if mpC g 0 < (bmF g 0).2 then mpC g 0 else (bmF g 0).2) := rfl
  rw [s, if_pos (show mpC g 0 < (bmF g 0).2 from h2), if_pos (show mpC g 0 < (bmF g 0).2 from h2)]
theorem cw_rng (g : Int → Int) (i v : Int) : R32 (cwC g i v) := by
  have h := ro_rng (g := bgaG (cwG g i v)) 20000
  unfold cwC; exact ⟨by omega, by omega⟩
theorem mp_rng (g : Int → Int) (m : Int) : R32 (mpC g m) := by
  have h := ro_rng (g := bgaG (up g 2 m)) 20000
  unfold mpC; exact ⟨by omega, by omega⟩
/-- two streams alone, in the trial -/
theorem cl_rel {c ct g : Int → Int} (hR : Rel c g) {a b m k : Int} (ha : 0 ≤ a ∧ a < g 5) (hb : 0 ≤ b ∧ b < g 5) (h4 : g 5 ≤ 4) (hm : m = if a < b then a else b) (hk : k = if a < b then b else a) :
    RelL (apC (apC (up (cpS ct c) 5 0) (c (70 + 10 * m)) (c (70 + 10 * m + 1)) (c (70 + 10 * m + 2))) (c (70 + 10 * k)) (c (70 + 10 * k + 1)) (c (70 + 10 * k + 2))) (clG g a b) := by
  obtain ⟨⟨e0, e1, e2, e3, e4, e5⟩, -, hQ⟩ := hR
  have m0 : 0 ≤ m ∧ m < g 5 := by omega
  have k0 : 0 ≤ k ∧ k < g 5 := by omega
  obtain ⟨d, hd⟩ : ∃ x : Int → Int, x = up (cpS ct c) 5 0 := ⟨_, rfl⟩
  have d5 : d 5 = 0 := by rw [hd, up_eq]
  have dl : ∀ j, 0 ≤ j → j < 4 → d j = c j := fun j j0 j1 => by rw [hd, up_ne _ _ (by omega), cpS, if_pos (by omega)]
  rw [← hd]
  obtain ⟨f, hf⟩ : ∃ x : Int → Int, x = apC d (c (70 + 10 * m)) (c (70 + 10 * m + 1)) (c (70 + 10 * m + 2)) := ⟨_, rfl⟩
  have f5 : f 5 = 1 := by rw [hf, apC, up_eq, d5]; rfl
  have fl : ∀ j, 0 ≤ j → j < 4 → f j = c j := fun j j0 j1 => by rw [hf, apC, up_ne _ _ (by omega), setR_out _ _ _ (by rw [d5]; omega), dl j j0 j1]
  have fr : ∀ j, 0 ≤ j → j < 3 → f (70 + j) = c (70 + 10 * m + j) := fun j j0 j1 => by
    rw [hf, apC, up_ne _ _ (by omega), d5]
    have := setR_in d 0 (rwBegin (v8 (c (70 + 10 * m)) (c (70 + 10 * m + 1)) (c (70 + 10 * m + 2)) (d (70 + 10 * 0 + 3)) (d (70 + 10 * 0 + 4)) (d (70 + 10 * 0 + 5)) (d (70 + 10 * 0 + 6)) (d (70 + 10 * 0 + 7)))) j0 (by omega : j < 8)
    rw [show 70 + 10 * (0 : Int) + j = 70 + j by omega] at this
    rw [this]
    rcases (by omega : j = 0 ∨ j = 1 ∨ j = 2) with h | h | h <;> subst h
    · rw [Int.add_zero]; rfl
    · rfl
    · rfl
  rw [← hf]
  obtain ⟨p, hp⟩ : ∃ x : Int → Int, x = apC f (c (70 + 10 * k)) (c (70 + 10 * k + 1)) (c (70 + 10 * k + 2)) := ⟨_, rfl⟩
  have p5 : p 5 = 2 := by rw [hp, apC, up_eq, f5]; rfl
  have pl : ∀ j, 0 ≤ j → j < 4 → p j = c j := fun j j0 j1 => by rw [hp, apC, up_ne _ _ (by omega), setR_out _ _ _ (by rw [f5]; omega), fl j j0 j1]
  have pr : ∀ j, 0 ≤ j → j < 3 → p (70 + j) = c (70 + 10 * m + j) := fun j j0 j1 => by rw [hp, apC, up_ne _ _ (by omega), setR_out _ _ _ (by rw [f5]; omega), fr j j0 j1]
  have ps : ∀ j, 0 ≤ j → j < 3 → p (80 + j) = c (70 + 10 * k + j) := fun j j0 j1 => by
    rw [hp, apC, up_ne _ _ (by omega), f5]
    have := setR_in f 1 (rwBegin (v8 (c (70 + 10 * k)) (c (70 + 10 * k + 1)) (c (70 + 10 * k + 2)) (f (70 + 10 * 1 + 3)) (f (70 + 10 * 1 + 4)) (f (70 + 10 * 1 + 5)) (f (70 + 10 * 1 + 6)) (f (70 + 10 * 1 + 7)))) j0 (by omega : j < 8)
    rw [show 70 + 10 * (1 : Int) + j = 80 + j by omega] at this
    rw [this]
    rcases (by omega : j = 0 ∨ j = 1 ∨ j = 2) with h | h | h <;> subst h
    · rw [Int.add_zero]; rfl
    · rfl
    · rfl
  rw [← hp]
  have gl : ∀ j, 0 ≤ j → j < 4 → clG g a b j = g j := fun j j0 j1 => by rw [clG, up_ne _ _ (by omega), cmG, if_neg (by omega), cmG, if_neg (by omega)]
  have g5 : clG g a b 5 = 2 := up_eq _ _ _
  have gr : ∀ j, 0 ≤ j → j < 3 → clG g a b (70 + j) = g (70 + 10 * m + j) := fun j j0 j1 => by
    rw [clG, up_ne _ _ (by omega), cmG, if_neg (by omega), cmG, if_pos (by omega), ← hm]; congr 1; omega
  have gs : ∀ j, 0 ≤ j → j < 3 → clG g a b (80 + j) = g (70 + 10 * k + j) := fun j j0 j1 => by
    rw [clG, up_ne _ _ (by omega), cmG, if_pos (by omega), ← hk]; congr 1; omega
  refine ⟨⟨?_, ?_, ?_, ?_, p5.trans g5.symm⟩, fun i i0 i1 => ?_⟩
  · rw [pl 0 (by decide) (by decide), gl 0 (by decide) (by decide), e0]
  · rw [pl 1 (by decide) (by decide), gl 1 (by decide) (by decide), e1]
  · rw [pl 2 (by decide) (by decide), gl 2 (by decide) (by decide), e2]
  · rw [pl 3 (by decide) (by decide), gl 3 (by decide) (by decide), e3]
  · rw [g5] at i1
    rcases (by omega : i = 0 ∨ i = 1) with h | h <;> subst h
    · obtain ⟨q0, q1, q2, -⟩ := hQ m m0.1 m0.2
      refine ⟨(pr 0 (by decide) (by decide)).trans (((congrArg c (Int.add_zero _)).trans (q0.trans (congrArg g (Int.add_zero _).symm))).trans (gr 0 (by decide) (by decide)).symm), (pr 1 (by decide) (by decide)).trans (q1.trans (gr 1 (by decide) (by decide)).symm), (pr 2 (by decide) (by decide)).trans (q2.trans (gr 2 (by decide) (by decide)).symm)⟩
    · obtain ⟨q0, q1, q2, -⟩ := hQ k k0.1 k0.2
      refine ⟨(ps 0 (by decide) (by decide)).trans (((congrArg c (Int.add_zero _)).trans (q0.trans (congrArg g (Int.add_zero _).symm))).trans (gs 0 (by decide) (by decide)).symm), (ps 1 (by decide) (by decide)).trans (q1.trans (gs 1 (by decide) (by decide)).symm), (ps 2 (by decide) (by decide)).trans (q2.trans (gs 2 (by decide) (by decide)).symm)⟩
theorem frK_free (c : Int → Int) {b : Int} (b0 : 0 ≤ b) (b1 : b < 16) : frK c 16 (6 + 4 * b) = 0 := by
  have := frK_in c (j := 0) b0 (by decide) (by decide) 16 (by omega)
  rw [Int.add_zero] at this
  exact this
set_option maxRecDepth 100000 in
set_option maxHeartbeats 4000000 in
theorem ct_X5_untilDone (l : Launch) (Sg : Int → Int → Nat) (g be sa iz pa : Int → Int) (len st : Int) : Ct l yX5_untilDone cX5_untilDone 1 (some .int) 6 0 0 (fun ca av L M => av = [.ref (Sg 10 0)] ∧ SBm ca L M Sg (g, be, sa, iz, pa, len, st) ∧ WfA (g, be, sa, iz, pa, len, st)) (fun ca av L M r L1 M1 => r = some (.int (iI (roC 20000 g))) ∧ L = L1 ∧ SBo ca L M M1 Sg ((g, be, sa, iz, pa, len, st))) := by
  refine Ct_of (own := RX5) (by decide) rfl (by rintro _ _ _ _ ⟨rfl, _⟩; exact Nat.le_of_ble_eq_true rfl) ?_
  rintro p e s m args below meth cod D ca A av L M ⟨rfl, hSB, hW⟩ X hret hname
  refine g_lv (lv' := [(0, .ref (Sg 10 0))]) [0] rfl ?_
  obtain ⟨c, ct, nf, nu, hB, hR⟩ : ∃ (c ct : Int → Int) (nf : Int) (nu : Int → Int), SBc ca L M Sg be sa iz pa nu len nf st c ct ∧ Rel c g := SBm.opn hSB
  have hA := hB.adr
  have hO := outA.refl Sg M
  obtain ⟨hWg, hln, hst, hpa, hWh, hWs⟩ : WfG g ∧ (0 ≤ len ∧ len ≤ 60) ∧ (0 ≤ st ∧ st ≤ 6) ∧ InvP pa ∧ (∀ j, 0 ≤ j → j < st → WfG (blk (110 * j) be)) ∧ (∀ k, 0 ≤ k → k < 2 → (iz k = 0 ∨ iz k = 1) ∧ (iz k ≠ 0 → WfG (blk (110 * k) sa))) := id hW
  obtain ⟨hI, hZ, h4⟩ := id hWg
  obtain ⟨⟨i00, i01⟩, ⟨i10, i11⟩, ⟨i20, i21⟩, ⟨i30, i31⟩, ⟨i40, i41⟩, i50, i51⟩ := id hI.1
  obtain ⟨⟨e0, e1, e2, e3, e4, e5⟩, hRB, hRR⟩ := id hR
  refine g_aload_n X 0 rfl dX5_untilDone_0 rfl ?_
  refine g_get X cl_X5 1 (by decide) wf_X5_16 rfl (hA.mem (s := 10) (k := 0) (by unfold inD; omega)) hB.obj rfl dX5_untilDone_1 rfl ?_
  refine g_aload_n X 0 rfl dX5_untilDone_4 rfl ?_
  refine g_get X cl_X5 0 (by decide) wf_X5_10 rfl (hA.mem (s := 10) (k := 0) (by unfold inD; omega)) hB.obj rfl dX5_untilDone_5 rfl ?_
  refine g_callVN X (ct_X3_copy l (Sg 1) ct (Sg 0) c) (host := "StrideBanks") (As := [.ref (Sg 0 0)]) (rest := []) cl_X3 rfl ca_X3_copy rfl wm_X5_157 wi_X3_copy ws_X3_copy wc_X3_copy w0_X3 ⟨by decide, by decide⟩ (hB.trial.mem (i := 0) (by decide) (by decide)) hB.trial.obj (by decide) ⟨by decide, by decide⟩ rfl dX5_untilDone_8 rfl ⟨rfl, hB.trial, hB.now, hA.dis (by decide) (by decide) (by decide) (by decide) (by decide)⟩ (fun r1 L1 M_1 hq => ?_)
  obtain ⟨rfl, rfl, hs_2, hs_3, fr_4⟩ := hq
  have hB_5 := hB.toTrial hs_2 fr_4
  have hO_6 := hO.trans (outA.ofS (s := 1) (by decide) (by decide) fr_4)
  refine g_st (st' := []) rfl ?_
  refine g_aload_n X 0 rfl dX5_untilDone_11 rfl ?_
  refine g_get X cl_X5 1 (by decide) wf_X5_16 rfl (hA.mem (s := 10) (k := 0) (by unfold inD; omega)) hB_5.obj rfl dX5_untilDone_12 rfl ?_
  refine g_callVN X (ct_X3_passAll l (Sg 1) (c) g) (host := "StrideBanks") (As := []) (rest := []) cl_X3 rfl ca_X3_passAll rfl wm_X5_160 wi_X3_passAll ws_X3_passAll wc_X3_passAll w0_X3 ⟨by decide, by decide⟩ (hB_5.trial.mem (i := 0) (by decide) (by decide)) hB_5.trial.obj (by decide) ⟨by decide, by decide⟩ rfl dX5_untilDone_15 rfl ⟨rfl, hB_5.trial, hR, hI, by omega⟩ (fun r1 L1 M_7 hq => ?_)
  obtain ⟨rfl, rfl, c_11, hs_8, hR_9, fr_10⟩ := hq
  have hB_12 := hB_5.toTrial hs_8 fr_10
  have hO_13 := hO_6.trans (outA.ofS (s := 1) (by decide) (by decide) fr_10)
  refine g_st (st' := [.int (iI (roC 20000 g))]) rfl ?_
  exact g_iret X hret ⟨Nat.le_of_ble_eq_true rfl, Nat.le_of_ble_eq_true rfl⟩ dX5_untilDone_18 ⟨rfl, rfl, hB_12.fin hR hO_13⟩
set_option maxRecDepth 100000 in
set_option maxHeartbeats 4000000 in
theorem ct_X5_cyclesByMap (l : Launch) (Sg : Int → Int → Nat) (g be sa iz pa nu : Int → Int) (len nf st : Int) (c ct : Int → Int) (v : Int) : Ct l yX5_cyclesByMap cX5_cyclesByMap 2 (some .int) 6 0 0 (fun ca av L M => av = [.ref (Sg 10 0), .int (iI v)] ∧ SBc ca L M Sg be sa iz pa nu len nf st c ct ∧ Rel c g ∧ Inv g ∧ 0 ≤ v ∧ v ≤ 2) (fun ca av L M r L1 M1 => r = some (.int (iI (mpC g v))) ∧ L = L1 ∧ (∃ ct1, SBc ca L M1 Sg be sa iz pa nu len nf st c ct1) ∧ outA Sg M M1) := by
  refine Ct_of (own := RX5) (by decide) rfl (by rintro _ _ _ _ ⟨rfl, _⟩; exact Nat.le_of_ble_eq_true rfl) ?_
  rintro p e s m args below meth cod D ca A av L M ⟨rfl, hB, hR, hI, hv0, hv1⟩ X hret hname
  refine g_lv (lv' := [(0, .ref (Sg 10 0)), (1, .int (iI v))]) [0, 1] rfl ?_
  have hA := hB.adr
  have hO := outA.refl Sg M
  obtain ⟨⟨i00, i01⟩, ⟨i10, i11⟩, ⟨i20, i21⟩, ⟨i30, i31⟩, ⟨i40, i41⟩, i50, i51⟩ := id hI.1
  obtain ⟨⟨e0, e1, e2, e3, e4, e5⟩, hRB, hRR⟩ := id hR
  have ok := mp_ok hI (m := v) (by omega)
  refine g_aload_n X 0 rfl dX5_cyclesByMap_0 rfl ?_
  refine g_get X cl_X5 1 (by decide) wf_X5_16 rfl (hA.mem (s := 10) (k := 0) (by unfold inD; omega)) hB.obj rfl dX5_cyclesByMap_1 rfl ?_
  refine g_aload_n X 0 rfl dX5_cyclesByMap_4 rfl ?_
  refine g_get X cl_X5 0 (by decide) wf_X5_10 rfl (hA.mem (s := 10) (k := 0) (by unfold inD; omega)) hB.obj rfl dX5_cyclesByMap_5 rfl ?_
  refine g_callVN X (ct_X3_copy l (Sg 1) ct (Sg 0) c) (host := "StrideBanks") (As := [.ref (Sg 0 0)]) (rest := []) cl_X3 rfl ca_X3_copy rfl wm_X5_157 wi_X3_copy ws_X3_copy wc_X3_copy w0_X3 ⟨by decide, by decide⟩ (hB.trial.mem (i := 0) (by decide) (by decide)) hB.trial.obj (by decide) ⟨by decide, by decide⟩ rfl dX5_cyclesByMap_8 rfl ⟨rfl, hB.trial, hB.now, hA.dis (by decide) (by decide) (by decide) (by decide) (by decide)⟩ (fun r1 L1 M_1 hq => ?_)
  obtain ⟨rfl, rfl, hs_2, hs_3, fr_4⟩ := hq
  have hB_5 := hB.toTrial hs_2 fr_4
  have hO_6 := hO.trans (outA.ofS (s := 1) (by decide) (by decide) fr_4)
  refine g_st (st' := []) rfl ?_
  refine g_aload_n X 0 rfl dX5_cyclesByMap_11 rfl ?_
  refine g_get X cl_X5 1 (by decide) wf_X5_16 rfl (hA.mem (s := 10) (k := 0) (by unfold inD; omega)) hB_5.obj rfl dX5_cyclesByMap_12 rfl ?_
  refine g_getN X cl_X3 0 (by decide) wf_X5_56 rfl (hB_5.trial.mem (i := 0) (by decide) (by decide)) hB_5.trial.obj rfl dX5_cyclesByMap_15 rfl ?_
  refine g_iconst X (z := 2) dX5_cyclesByMap_18 rfl ?_
  refine g_iload_n X 1 rfl dX5_cyclesByMap_19 rfl ?_
  refine g_iast X (hB_5.trial.mem (i := 1) (by decide) (by decide)) hB_5.trial.set ⟨by decide, by decide⟩ (by decide) dX5_cyclesByMap_20 rfl (fun M_7 hM_8 fr_9 => ?_)
  have hB_10 := hB_5.toTrial (hB_5.trial.putSet (c' := up (c) 2 v) hM_8 fr_9 (fun j hj => up_ne _ _ (by omega))) (outS.one (i := 1) (by decide) (by decide) fr_9)
  have hO_11 := hO_6.trans (outA.one (s := 1) (k := 1) (by unfold inD; omega) fr_9)
  refine g_aload_n X 0 rfl dX5_cyclesByMap_21 rfl ?_
  refine g_get X cl_X5 1 (by decide) wf_X5_16 rfl (hA.mem (s := 10) (k := 0) (by unfold inD; omega)) hB_10.obj rfl dX5_cyclesByMap_22 rfl ?_
  refine g_callVN X (ct_X3_beginAnew l (Sg 1) (up (c) 2 v)) (host := "StrideBanks") (As := []) (rest := []) cl_X3 rfl ca_X3_beginAnew rfl wm_X5_59 wi_X3_beginAnew ws_X3_beginAnew wc_X3_beginAnew w0_X3 ⟨by decide, by decide⟩ (hB_10.trial.mem (i := 0) (by decide) (by decide)) hB_10.trial.obj (by decide) ⟨by decide, by decide⟩ rfl dX5_cyclesByMap_25 rfl ⟨rfl, hB_10.trial, by rw [up_ne _ _ (by decide)]; omega⟩ (fun r1 L1 M_12 hq => ?_)
  obtain ⟨rfl, rfl, hs_13, fr_14⟩ := hq
  have hB_15 := hB_10.toTrial hs_13 fr_14
  have hO_16 := hO_11.trans (outA.ofS (s := 1) (by decide) (by decide) fr_14)
  refine g_st (st' := []) rfl ?_
  have hRt : Rel (bgC (up c 2 v)) (bgaG (up g 2 v)) := rel_bga (rel_set hR (by decide) (by decide)) (by rw [up_ne _ _ (by decide)]; omega) ok.2.1
  have okI := bga_inv ok.1 ok.2.1
  have ok4 := bga_cyc (up g 2 v)
  refine g_aload_n X 0 rfl dX5_cyclesByMap_28 rfl ?_
  refine g_get X cl_X5 1 (by decide) wf_X5_16 rfl (hA.mem (s := 10) (k := 0) (by unfold inD; omega)) hB_15.obj rfl dX5_cyclesByMap_29 rfl ?_
  refine g_callVN X (ct_X3_passAll l (Sg 1) (bgC (up (c) 2 v)) (bgaG (up g 2 v))) (host := "StrideBanks") (As := []) (rest := []) cl_X3 rfl ca_X3_passAll rfl wm_X5_160 wi_X3_passAll ws_X3_passAll wc_X3_passAll w0_X3 ⟨by decide, by decide⟩ (hB_15.trial.mem (i := 0) (by decide) (by decide)) hB_15.trial.obj (by decide) ⟨by decide, by decide⟩ rfl dX5_cyclesByMap_32 rfl ⟨rfl, hB_15.trial, hRt, okI, by omega⟩ (fun r1 L1 M_17 hq => ?_)
  obtain ⟨rfl, rfl, c_21, hs_18, hR_19, fr_20⟩ := hq
  have hB_22 := hB_15.toTrial hs_18 fr_20
  have hO_23 := hO_16.trans (outA.ofS (s := 1) (by decide) (by decide) fr_20)
  refine g_st (st' := [.int (iI (roC 20000 (bgaG (up g 2 v))))]) rfl ?_
  exact g_iret X hret ⟨Nat.le_of_ble_eq_true rfl, Nat.le_of_ble_eq_true rfl⟩ dX5_cyclesByMap_35 ⟨by rw [mpC], rfl, ⟨_, hB_22⟩, hO_23⟩
set_option maxRecDepth 100000 in
set_option maxHeartbeats 4000000 in
theorem ct_X5_bestMap (l : Launch) (Sg : Int → Int → Nat) (g be sa iz pa : Int → Int) (len st : Int) (w : Int) : Ct l yX5_bestMap cX5_bestMap 6 (some .int) 7 0 0 (fun ca av L M => av = [.ref (Sg 10 0), .int (iI w)] ∧ SBm ca L M Sg (g, be, sa, iz, pa, len, st) ∧ WfA (g, be, sa, iz, pa, len, st) ∧ R32 w) (fun ca av L M r L1 M1 => r = some (.int (iI (anMap (g, be, sa, iz, pa, len, st) w))) ∧ L = L1 ∧ SBo ca L M M1 Sg ((g, be, sa, iz, pa, len, st))) := by
  refine Ct_of (own := RX5) (by decide) rfl (by rintro _ _ _ _ ⟨rfl, _⟩; exact Nat.le_of_ble_eq_true rfl) ?_
  rintro p e s m args below meth cod D ca A av L M ⟨rfl, hSB, hW, hw⟩ X hret hname
  refine g_lv (lv' := [(0, .ref (Sg 10 0)), (1, .int (iI w))]) [0, 1] rfl ?_
  generalize hQ : MQ below _ args s _ _ A = Q
  obtain ⟨c, ct, nf, nu, hB, hR⟩ : ∃ (c ct : Int → Int) (nf : Int) (nu : Int → Int), SBc ca L M Sg be sa iz pa nu len nf st c ct ∧ Rel c g := SBm.opn hSB
  have hA := hB.adr
  have hO := outA.refl Sg M
  obtain ⟨hWg, hln, hst, hpa, hWh, hWs⟩ : WfG g ∧ (0 ≤ len ∧ len ≤ 60) ∧ (0 ≤ st ∧ st ≤ 6) ∧ InvP pa ∧ (∀ j, 0 ≤ j → j < st → WfG (blk (110 * j) be)) ∧ (∀ k, 0 ≤ k → k < 2 → (iz k = 0 ∨ iz k = 1) ∧ (iz k ≠ 0 → WfG (blk (110 * k) sa))) := id hW
  obtain ⟨hI, hZ, h4⟩ := id hWg
  obtain ⟨⟨i00, i01⟩, ⟨i10, i11⟩, ⟨i20, i21⟩, ⟨i30, i31⟩, ⟨i40, i41⟩, i50, i51⟩ := id hI.1
  obtain ⟨⟨e0, e1, e2, e3, e4, e5⟩, hRB, hRR⟩ := id hR
  have lp : ∀ (n : Nat) (k : Nat) (x z y : Int) (M1 : Mem) (ct1 : Int → Int) (hw2 : 0 ≤ w ∧ w ≤ 1) (hy : y = k) (hyb : y ≤ 3) (hx : x = (bmF g k).1) (hz : z = (bmF g k).2) (hzr : R32 z) (hB1 : SBc ca L M1 Sg be sa iz pa nu len nf st c ct1) (hO1 : outA Sg M M1) (hm : 3 - y < (n : Int)), G p l e (Rm 7 0 0) s m args below meth cod D A 6 Q 0 0 L M1 23 [(0, .ref (Sg 10 0)), (1, .int (iI w)), (2, .int (iI x)), (3, .int (iI z)), (4, .int (iI y))] [] := by
    intro n
    induction n with
    | zero =>
      intro k x z y M1 ct1 hw2 hy hyb hx hz hzr hB1 hO1 hm
      exfalso; omega
    | succ n ih =>
      intro k x z y M1 ct1 hw2 hy hyb hx hz hzr hB1 hO1 hm
      refine g_iload X 4 rfl dX5_bestMap_23 rfl ?_
      refine g_iconst X (z := 3) dX5_bestMap_25 rfl ?_
      refine g_icmp_ge X ⟨by omega, by omega⟩ ⟨by decide, by decide⟩ (tgt := 55) dX5_bestMap_26 (by decide) rfl (fun h_1 => ?_) (fun h_1 => ?_)
      · refine g_iload_n X 1 rfl dX5_bestMap_55 rfl ?_
        refine g_if_ne X hw (tgt := 63) dX5_bestMap_56 (by decide) rfl (fun h_2 => ?_) (fun h_2 => ?_)
        · refine g_iload_n X 3 rfl dX5_bestMap_63 rfl ?_
          subst hQ
          have hk3 : k = 3 := by omega
          subst hk3
          exact g_iret X hret ⟨Nat.le_of_ble_eq_true rfl, Nat.le_of_ble_eq_true rfl⟩ dX5_bestMap_64 ⟨by rw [anMap, if_pos hw2, if_neg (by omega), hz], rfl, hB1.fin hR hO1⟩
        · refine g_iload_n X 2 rfl dX5_bestMap_59 rfl ?_
          refine g_goto X (n := 64) dX5_bestMap_60 (by decide) ?_
          subst hQ
          have hk3 : k = 3 := by omega
          subst hk3
          exact g_iret X hret ⟨Nat.le_of_ble_eq_true rfl, Nat.le_of_ble_eq_true rfl⟩ dX5_bestMap_64 ⟨by rw [anMap, if_pos hw2, if_pos (by omega), hx], rfl, hB1.fin hR hO1⟩
      · refine g_aload_n X 0 rfl dX5_bestMap_29 rfl ?_
        refine g_iload X 4 rfl dX5_bestMap_30 rfl ?_
        refine g_callV X (ct_X5_cyclesByMap l Sg g be sa iz pa nu len nf st c ct1 y) (As := [.int (iI y)]) (rest := []) cl_X5 rfl ca_X5_cyclesByMap rfl wm_X5_169 wi_X5_cyclesByMap ws_X5_cyclesByMap wc_X5_cyclesByMap w0_X5 ⟨by decide, by decide⟩ (hA.mem (s := 10) (k := 0) (by unfold inD; omega)) hB1.obj (by decide) ⟨by decide, by decide⟩ rfl dX5_bestMap_32 rfl ⟨rfl, hB1, hR, hI, by omega, by omega⟩ (fun r1 L1 M_3 hq => ?_)
        obtain ⟨rfl, rfl, ⟨ct_6, hB_4⟩, fr_5⟩ := hq
        have hB_7 := hB_4
        have hO_8 := hO1.trans (fr_5)
        refine g_st (st' := [.int (iI (mpC g y))]) rfl ?_
        refine g_istore X (lv' := [(5, .int (iI (mpC g y))), (0, .ref (Sg 10 0)), (1, .int (iI w)), (2, .int (iI x)), (3, .int (iI z)), (4, .int (iI y))]) (by decide) rfl dX5_bestMap_35 rfl ?_
        refine g_iload X 0 rfl dX5_bestMap_37 rfl ?_
        refine g_iload_n X 4 rfl dX5_bestMap_39 rfl ?_
        refine g_icmp_ge X (mp_rng g y) hzr (tgt := 49) dX5_bestMap_40 (by decide) rfl (fun h_9 => ?_) (fun h_9 => ?_)
        · refine g_iinc X (lv' := [(4, .int (iI (y + 1))), (5, .int (iI (mpC g y))), (0, .ref (Sg 10 0)), (1, .int (iI w)), (2, .int (iI x)), (3, .int (iI z))]) 5 rfl (by decide) rfl dX5_bestMap_49 rfl ?_
          refine g_goto X (n := 23) dX5_bestMap_52 (by decide) ?_
          refine g_lv (lv' := [(0, .ref (Sg 10 0)), (1, .int (iI w)), (2, .int (iI x)), (3, .int (iI z)), (4, .int (iI (y + 1)))]) [2, 3, 4, 5, 0] rfl ?_
          exact ih (k + 1) _ _ _ _ _ hw2 (by omega) (by omega) (by simp only [bmF]; rw [← hx, ← hz, ← hy, if_neg (by omega)]) (by simp only [bmF]; rw [← hz, ← hy, if_neg (by omega)]) hzr hB_7 hO_8 (by omega)
        · refine g_iload X 0 rfl dX5_bestMap_43 rfl ?_
          refine g_istore_n X (lv' := [(3, .int (iI (mpC g y))), (5, .int (iI (mpC g y))), (0, .ref (Sg 10 0)), (1, .int (iI w)), (2, .int (iI x)), (4, .int (iI y))]) (by decide) rfl dX5_bestMap_45 rfl ?_
          refine g_iload X 5 rfl dX5_bestMap_46 rfl ?_
          refine g_istore_n X (lv' := [(2, .int (iI y)), (3, .int (iI (mpC g y))), (5, .int (iI (mpC g y))), (0, .ref (Sg 10 0)), (1, .int (iI w)), (4, .int (iI y))]) (by decide) rfl dX5_bestMap_48 rfl ?_
          refine g_iinc X (lv' := [(4, .int (iI (y + 1))), (2, .int (iI y)), (3, .int (iI (mpC g y))), (5, .int (iI (mpC g y))), (0, .ref (Sg 10 0)), (1, .int (iI w))]) 5 rfl (by decide) rfl dX5_bestMap_49 rfl ?_
          refine g_goto X (n := 23) dX5_bestMap_52 (by decide) ?_
          refine g_lv (lv' := [(0, .ref (Sg 10 0)), (1, .int (iI w)), (2, .int (iI y)), (3, .int (iI (mpC g y))), (4, .int (iI (y + 1)))]) [4, 5, 1, 2, 0] rfl ?_
          exact ih (k + 1) _ _ _ _ _ hw2 (by omega) (by omega) (by simp only [bmF]; rw [← hx, ← hz, ← hy, if_pos (by omega)]) (by simp only [bmF]; rw [← hz, ← hy, if_pos (by omega)]) (mp_rng g y) hB_7 hO_8 (by omega)
  refine g_iload_n X 1 rfl dX5_bestMap_0 rfl ?_
  refine g_iconst X (z := 0) dX5_bestMap_1 rfl ?_
  refine g_iconst X (z := 1) dX5_bestMap_2 rfl ?_
  refine g_callS X (ct_X5_isIn l w 0 1) (As := [.int (iI w), .int (iI 0), .int (iI 1)]) (rest := []) rfl ca_X5_isIn rfl wm_X5_41 wt_X5_isIn wc_X5_isIn w0_X5 ⟨by decide, by decide⟩ (by decide) ⟨by decide, by decide⟩ rfl dX5_bestMap_3 rfl ⟨rfl, hw, ⟨by decide, by decide⟩, ⟨by decide, by decide⟩⟩ (fun r1 L1 M1 hq => ?_)
  obtain ⟨rfl, rfl, rfl⟩ := hq
  refine g_st (st' := [.int (iI (if 0 ≤ w ∧ w ≤ 1 then 1 else 0))]) rfl ?_
  refine g_if_neb X (tgt := 12) dX5_bestMap_6 (by decide) rfl (fun h_10 => ?_) (fun h_10 => ?_)
  · refine g_iconst X (z := 0) dX5_bestMap_12 rfl ?_
    refine g_istore_n X (lv' := [(2, .int (iI 0)), (0, .ref (Sg 10 0)), (1, .int (iI w))]) (by decide) rfl dX5_bestMap_13 rfl ?_
    refine g_aload_n X 1 rfl dX5_bestMap_14 rfl ?_
    refine g_iconst X (z := 0) dX5_bestMap_15 rfl ?_
    refine g_callV X (ct_X5_cyclesByMap l Sg g be sa iz pa nu len nf st c ct 0) (As := [.int (iI 0)]) (rest := []) cl_X5 rfl ca_X5_cyclesByMap rfl wm_X5_169 wi_X5_cyclesByMap ws_X5_cyclesByMap wc_X5_cyclesByMap w0_X5 ⟨by decide, by decide⟩ (hA.mem (s := 10) (k := 0) (by unfold inD; omega)) hB.obj (by decide) ⟨by decide, by decide⟩ rfl dX5_bestMap_16 rfl ⟨rfl, hB, hR, hI, by omega, by omega⟩ (fun r1 L1 M_11 hq => ?_)
    obtain ⟨rfl, rfl, ⟨ct_14, hB_12⟩, fr_13⟩ := hq
    have hB_15 := hB_12
    have hO_16 := hO.trans (fr_13)
    refine g_st (st' := [.int (iI (mpC g 0))]) rfl ?_
    refine g_istore_n X (lv' := [(3, .int (iI (mpC g 0))), (2, .int (iI 0)), (0, .ref (Sg 10 0)), (1, .int (iI w))]) (by decide) rfl dX5_bestMap_19 rfl ?_
    refine g_iconst X (z := 1) dX5_bestMap_20 rfl ?_
    refine g_istore X (lv' := [(4, .int (iI 1)), (3, .int (iI (mpC g 0))), (2, .int (iI 0)), (0, .ref (Sg 10 0)), (1, .int (iI w))]) (by decide) rfl dX5_bestMap_21 rfl ?_
    refine g_lv (lv' := [(0, .ref (Sg 10 0)), (1, .int (iI w)), (2, .int (iI 0)), (3, .int (iI (mpC g 0))), (4, .int (iI 1))]) [3, 4, 2, 1, 0] rfl ?_
    exact lp 7 1 _ _ _ _ _ (by omega) (by omega) (by omega) (by rw [bmF_1]) (by rw [bmF_1]) (mp_rng g 0) hB_15 hO_16 (by omega)
  · refine g_bipush X (z := -2) (by decide +kernel) dX5_bestMap_9 rfl ?_
    subst hQ
    have hn : ¬ (0 ≤ w ∧ w ≤ 1) := by omega
    exact g_iret X hret ⟨Nat.le_of_ble_eq_true rfl, Nat.le_of_ble_eq_true rfl⟩ dX5_bestMap_11 ⟨by rw [anMap, if_neg hn], rfl, hB.fin hR hO⟩
