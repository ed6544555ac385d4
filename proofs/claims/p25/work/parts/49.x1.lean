/-! the class: changes -/
theorem SBc.m {ca : Nat → ClassId} {L : List Nat} {M : Mem} {Sg : Int → Int → Nat} {g be sa iz pa nu : Int → Int} {len nf st : Int} {c ct : Int → Int} (h : SBc ca L M Sg be sa iz pa nu len nf st c ct) (hR : Rel c g) : SBm ca L M Sg (g, be, sa, iz, pa, len, st) := ⟨h.adr, h.2.1, ⟨nf, nu, h.2.2.1⟩, h.hist, ⟨c, h.now, hR⟩, ⟨ct, h.trial⟩, h.slots⟩
theorem tS_rng {k : Int} (h : 0 ≤ k ∧ k ≤ 3) : (0 ≤ tLS k ∧ tLS k ≤ 2) ∧ 1 ≤ tMS k ∧ tMS k ≤ 16 := by
  rcases (by omega : k = 0 ∨ k = 1 ∨ k = 2 ∨ k = 3) with h | h | h | h <;> subst h <;> decide
theorem RelS.at {c g : Int → Int} (h : RelS c g) {k : Int} (h0 : 0 ≤ k) (h1 : k < 6) : c k = g k := by
  obtain ⟨e0, e1, e2, e3, e4, e5⟩ := h
  rcases (by omega : k = 0 ∨ k = 1 ∨ k = 2 ∨ k = 3 ∨ k = 4 ∨ k = 5) with h | h | h | h | h | h <;> subst h <;> assumption
theorem bgC_5 (c : Int → Int) : bgC c 5 = c 5 := by unfold bgC; rw [bgR_low _ (by decide), frK_out _ (Or.inl (by decide)) _ (by decide), up_ne _ _ (by decide)]
theorem tot_left {c g : Int → Int} (h : Rel c g) (h0 : 0 ≤ g 5) : toS c 3 (c 5).toNat = wlG g := by
  have e := h.1.2.2.2.2.2
  rw [toS_left h _ (by omega), e]; rfl
set_option maxRecDepth 100000 in
set_option maxHeartbeats 4000000 in
theorem ct_X5_set (l : Launch) (Sg : Int → Int → Nat) (g be sa iz pa : Int → Int) (len st : Int) (k v : Int) : Ct l yX5_set cX5_set 4 (some .int) 5 0 0 (fun ca av L M => av = [.ref (Sg 10 0), .int (iI k), .int (iI v)] ∧ SBm ca L M Sg (g, be, sa, iz, pa, len, st) ∧ WfA (g, be, sa, iz, pa, len, st) ∧ R32 k ∧ R32 v) (fun ca av L M r L1 M1 => r = some (.int (iI (anSet (g, be, sa, iz, pa, len, st) k v))) ∧ L = L1 ∧ SBo ca L M M1 Sg (opSet (g, be, sa, iz, pa, len, st) k v)) := by
  refine Ct_of (own := RX5) (by decide) rfl (by rintro _ _ _ _ ⟨rfl, _⟩; exact Nat.le_of_ble_eq_true rfl) ?_
  rintro p e s m args below meth cod D ca A av L M ⟨rfl, hSB, hW, hk, hv⟩ X hret hname
  refine g_lv (lv' := [(0, .ref (Sg 10 0)), (1, .int (iI k)), (2, .int (iI v))]) [0, 1, 2] rfl ?_
  obtain ⟨c, ct, nf, nu, hB, hR⟩ : ∃ (c ct : Int → Int) (nf : Int) (nu : Int → Int), SBc ca L M Sg be sa iz pa nu len nf st c ct ∧ Rel c g := SBm.opn hSB
  have hA := hB.adr
  have hO := outA.refl Sg M
  obtain ⟨hWg, hln, hst, hpa, hWh, hWs⟩ : WfG g ∧ (0 ≤ len ∧ len ≤ 60) ∧ (0 ≤ st ∧ st ≤ 6) ∧ InvP pa ∧ (∀ j, 0 ≤ j → j < st → WfG (blk (110 * j) be)) ∧ (∀ k, 0 ≤ k → k < 2 → (iz k = 0 ∨ iz k = 1) ∧ (iz k ≠ 0 → WfG (blk (110 * k) sa))) := id hW
  obtain ⟨hI, hZ, h4⟩ := id hWg
  obtain ⟨⟨i00, i01⟩, ⟨i10, i11⟩, ⟨i20, i21⟩, ⟨i30, i31⟩, ⟨i40, i41⟩, i50, i51⟩ := id hI.1
  obtain ⟨⟨e0, e1, e2, e3, e4, e5⟩, hRB, hRR⟩ := id hR
  refine g_iload_n X 1 rfl dX5_set_0 rfl ?_
  refine g_iconst X (z := 0) dX5_set_1 rfl ?_
  refine g_iconst X (z := 3) dX5_set_2 rfl ?_
  refine g_callS X (ct_X5_isIn l k 0 3) (As := [.int (iI k), .int (iI 0), .int (iI 3)]) (rest := []) rfl ca_X5_isIn rfl wm_X5_41 wt_X5_isIn wc_X5_isIn w0_X5 ⟨by decide, by decide⟩ (by decide) ⟨by decide, by decide⟩ rfl dX5_set_3 rfl ⟨rfl, hk, ⟨by decide, by decide⟩, ⟨by decide, by decide⟩⟩ (fun r1 L1 M1 hq => ?_)
  obtain ⟨rfl, rfl, rfl⟩ := hq
  refine g_st (st' := [.int (iI (if 0 ≤ k ∧ k ≤ 3 then 1 else 0))]) rfl ?_
  refine g_if_neb X (tgt := 12) dX5_set_6 (by decide) rfl (fun h_1 => ?_) (fun h_1 => ?_)
  · refine g_iload_n X 2 rfl dX5_set_12 rfl ?_
    refine g_gets X (host := "StrideBanks") wf_X5_45 X.2.2.2.1.1 dX5_set_13 rfl (fun t_2 hT_3 => ?_)
    refine g_iload_n X 1 rfl dX5_set_16 rfl ?_
    refine g_ti X hT_3 ⟨by omega, by omega⟩ (by decide) dX5_set_17 rfl ?_
    refine g_gets X (host := "StrideBanks") wf_X5_49 X.2.2.2.1.2.1 dX5_set_18 rfl (fun t_4 hT_5 => ?_)
    refine g_iload_n X 1 rfl dX5_set_21 rfl ?_
    refine g_ti X hT_5 ⟨by omega, by omega⟩ (by decide) dX5_set_22 rfl ?_
    have hts := tS_rng (k := k) (by omega)
    refine g_callS X (ct_X5_isIn l v (tLS k) (tMS k)) (As := [.int (iI v), .int (iI (tLS k)), .int (iI (tMS k))]) (rest := []) rfl ca_X5_isIn rfl wm_X5_41 wt_X5_isIn wc_X5_isIn w0_X5 ⟨by decide, by decide⟩ (by decide) ⟨by decide, by decide⟩ rfl dX5_set_23 rfl ⟨rfl, hv, ⟨by omega, by omega⟩, ⟨by omega, by omega⟩⟩ (fun r1 L1 M1 hq => ?_)
    obtain ⟨rfl, rfl, rfl⟩ := hq
    refine g_st (st' := [.int (iI (if tLS k ≤ v ∧ v ≤ tMS k then 1 else 0))]) rfl ?_
    refine g_if_neb X (tgt := 32) dX5_set_26 (by decide) rfl (fun h_6 => ?_) (fun h_6 => ?_)
    · refine g_aload_n X 0 rfl dX5_set_32 rfl ?_
      refine g_get X cl_X5 2 (by decide) wf_X5_22 rfl (hA.mem (s := 10) (k := 0) (by unfold inD; omega)) hB.obj rfl dX5_set_33 rfl ?_
      refine g_aload_n X 0 rfl dX5_set_36 rfl ?_
      refine g_get X cl_X5 0 (by decide) wf_X5_10 rfl (hA.mem (s := 10) (k := 0) (by unfold inD; omega)) hB.obj rfl dX5_set_37 rfl ?_
      refine g_callVN X (ct_X1_record l Sg st be c g) (host := "StrideBanks") (As := [.ref (Sg 0 0)]) (rest := []) cl_X1 rfl ca_X1_record rfl wm_X5_52 wi_X1_record ws_X1_record wc_X1_record w0_X1 ⟨by decide, by decide⟩ (hA.mem (s := 10) (k := 1) (by unfold inD; omega)) hB.hobj (by decide) ⟨by decide, by decide⟩ rfl dX5_set_40 rfl ⟨rfl, hA, hB.hist, hst, hB.now, hR, hI.1.2.2.2.2.2.2, fun j j0 j1 => (hWh j j0 j1).1.1.2.2.2.2.2.2⟩ (fun r1 L1 M_7 hq => ?_)
      obtain ⟨rfl, rfl, hH_8, hs_9, fr_10⟩ := hq
      obtain ⟨hB_11, hO_12⟩ := hB.toRec hH_8 hs_9 fr_10
      have hO_12 := hO.trans hO_12
      refine g_st (st' := []) rfl ?_
      refine g_aload_n X 0 rfl dX5_set_43 rfl ?_
      refine g_get X cl_X5 0 (by decide) wf_X5_10 rfl (hA.mem (s := 10) (k := 0) (by unfold inD; omega)) hB_11.obj rfl dX5_set_44 rfl ?_
      refine g_getN X cl_X3 0 (by decide) wf_X5_56 rfl (hB_11.now.mem (i := 0) (by decide) (by decide)) hB_11.now.obj rfl dX5_set_47 rfl ?_
      refine g_iload_n X 1 rfl dX5_set_50 rfl ?_
      refine g_iald X (hB_11.now.mem (i := 1) (by decide) (by decide)) hB_11.now.set ⟨by omega, by omega⟩ (by decide) dX5_set_51 rfl ?_
      refine g_istore_n X (lv' := [(3, .int (iI (c k))), (0, .ref (Sg 10 0)), (1, .int (iI k)), (2, .int (iI v))]) (by decide) rfl dX5_set_52 rfl ?_
      refine g_aload_n X 1 rfl dX5_set_53 rfl ?_
      refine g_get X cl_X5 0 (by decide) wf_X5_10 rfl (hA.mem (s := 10) (k := 0) (by unfold inD; omega)) hB_11.obj rfl dX5_set_54 rfl ?_
      refine g_getN X cl_X3 0 (by decide) wf_X5_56 rfl (hB_11.now.mem (i := 0) (by decide) (by decide)) hB_11.now.obj rfl dX5_set_57 rfl ?_
      refine g_iload_n X 2 rfl dX5_set_60 rfl ?_
      refine g_iload_n X 3 rfl dX5_set_61 rfl ?_
      refine g_iast X (hB_11.now.mem (i := 1) (by decide) (by decide)) hB_11.now.set ⟨by omega, by omega⟩ (by decide) dX5_set_62 rfl (fun M_13 hM_14 fr_15 => ?_)
      have hB_16 := hB_11.toNow (hB_11.now.putSet (c' := up c k v) hM_14 fr_15 (fun j hj => up_ne _ _ (by omega))) (outS.one (i := 1) (by decide) (by decide) fr_15)
      have hO_17 := hO_12.trans (outA.one (s := 0) (k := 1) (by unfold inD; omega) fr_15)
      refine g_aload_n X 1 rfl dX5_set_63 rfl ?_
      refine g_get X cl_X5 0 (by decide) wf_X5_10 rfl (hA.mem (s := 10) (k := 0) (by unfold inD; omega)) hB_16.obj rfl dX5_set_64 rfl ?_
      refine g_callVN X (ct_X3_beginAnew l (Sg 0) (up c k v)) (host := "StrideBanks") (As := []) (rest := []) cl_X3 rfl ca_X3_beginAnew rfl wm_X5_59 wi_X3_beginAnew ws_X3_beginAnew wc_X3_beginAnew w0_X3 ⟨by decide, by decide⟩ (hB_16.now.mem (i := 0) (by decide) (by decide)) hB_16.now.obj (by decide) ⟨by decide, by decide⟩ rfl dX5_set_67 rfl ⟨rfl, hB_16.now, by rw [up_ne _ _ (by omega)]; omega⟩ (fun r1 L1 M_18 hq => ?_)
      obtain ⟨rfl, rfl, hs_19, fr_20⟩ := hq
      have hB_21 := hB_16.toNow hs_19 fr_20
      have hO_22 := hO_17.trans (outA.ofS (s := 0) (by decide) (by decide) fr_20)
      refine g_st (st' := []) rfl ?_
      refine g_iload_n X 0 rfl dX5_set_70 rfl ?_
      have hset : isSet k v := set_rng.mpr ⟨by omega, by omega⟩
      have hR9 : Rel (bgC (up c k v)) (bgaG (up g k v)) := rel_bga (rel_set hR (by omega) (by omega)) (by rw [up_ne _ _ (by omega)]; omega) (set_inv hI hset).2
      exact g_iret X hret ⟨Nat.le_of_ble_eq_true rfl, Nat.le_of_ble_eq_true rfl⟩ dX5_set_71 ⟨by rw [anSet, if_pos hset]; exact congrArg _ (congrArg _ (congrArg iI (hR.1.at (by omega) (by omega)))), rfl, by rw [opSet, if_pos hset]; exact hB_21.fin hR9 hO_22⟩
    · refine g_bipush X (z := -2) (by decide +kernel) dX5_set_29 rfl ?_
      exact g_iret X hret ⟨Nat.le_of_ble_eq_true rfl, Nat.le_of_ble_eq_true rfl⟩ dX5_set_31 ⟨by rw [anSet, if_neg (fun q => by have q2 := set_rng.mp q; omega)], rfl, by rw [opSet, if_neg (fun q => by have q2 := set_rng.mp q; omega)]; exact hB.fin hR hO⟩
  · refine g_bipush X (z := -2) (by decide +kernel) dX5_set_9 rfl ?_
    exact g_iret X hret ⟨Nat.le_of_ble_eq_true rfl, Nat.le_of_ble_eq_true rfl⟩ dX5_set_11 ⟨by rw [anSet, if_neg (fun q => by have q2 := set_rng.mp q; omega)], rfl, by rw [opSet, if_neg (fun q => by have q2 := set_rng.mp q; omega)]; exact hB.fin hR hO⟩
set_option maxRecDepth 100000 in
set_option maxHeartbeats 4000000 in
theorem ct_X5_add (l : Launch) (Sg : Int → Int → Nat) (g be sa iz pa : Int → Int) (len st : Int) (a b z : Int) : Ct l yX5_add cX5_add 4 (some .int) 5 0 0 (fun ca av L M => av = [.ref (Sg 10 0), .int (iI a), .int (iI b), .int (iI z)] ∧ SBm ca L M Sg (g, be, sa, iz, pa, len, st) ∧ WfA (g, be, sa, iz, pa, len, st) ∧ R32 a ∧ R32 b ∧ R32 z) (fun ca av L M r L1 M1 => r = some (.int (iI (anAdd (g, be, sa, iz, pa, len, st) a b z))) ∧ L = L1 ∧ SBo ca L M M1 Sg (opAdd (g, be, sa, iz, pa, len, st) a b z)) := by
  refine Ct_of (own := RX5) (by decide) rfl (by rintro _ _ _ _ ⟨rfl, _⟩; exact Nat.le_of_ble_eq_true rfl) ?_
  rintro p e s m args below meth cod D ca A av L M ⟨rfl, hSB, hW, ha, hb, hz⟩ X hret hname
  refine g_lv (lv' := [(0, .ref (Sg 10 0)), (1, .int (iI a)), (2, .int (iI b)), (3, .int (iI z))]) [0, 1, 2, 3] rfl ?_
  obtain ⟨c, ct, nf, nu, hB, hR⟩ : ∃ (c ct : Int → Int) (nf : Int) (nu : Int → Int), SBc ca L M Sg be sa iz pa nu len nf st c ct ∧ Rel c g := SBm.opn hSB
  have hA := hB.adr
  have hO := outA.refl Sg M
  obtain ⟨hWg, hln, hst, hpa, hWh, hWs⟩ : WfG g ∧ (0 ≤ len ∧ len ≤ 60) ∧ (0 ≤ st ∧ st ≤ 6) ∧ InvP pa ∧ (∀ j, 0 ≤ j → j < st → WfG (blk (110 * j) be)) ∧ (∀ k, 0 ≤ k → k < 2 → (iz k = 0 ∨ iz k = 1) ∧ (iz k ≠ 0 → WfG (blk (110 * k) sa))) := id hW
  obtain ⟨hI, hZ, h4⟩ := id hWg
  obtain ⟨⟨i00, i01⟩, ⟨i10, i11⟩, ⟨i20, i21⟩, ⟨i30, i31⟩, ⟨i40, i41⟩, i50, i51⟩ := id hI.1
  obtain ⟨⟨e0, e1, e2, e3, e4, e5⟩, hRB, hRR⟩ := id hR
  refine g_iload_n X 1 rfl dX5_add_0 rfl ?_
  refine g_iconst X (z := 0) dX5_add_1 rfl ?_
  refine g_sipush X (z := 4095) (by decide +kernel) dX5_add_2 rfl ?_
  refine g_callS X (ct_X5_isIn l a 0 4095) (As := [.int (iI a), .int (iI 0), .int (iI 4095)]) (rest := []) rfl ca_X5_isIn rfl wm_X5_41 wt_X5_isIn wc_X5_isIn w0_X5 ⟨by decide, by decide⟩ (by decide) ⟨by decide, by decide⟩ rfl dX5_add_5 rfl ⟨rfl, ha, ⟨by decide, by decide⟩, ⟨by decide, by decide⟩⟩ (fun r1 L1 M1 hq => ?_)
  obtain ⟨rfl, rfl, rfl⟩ := hq
  refine g_st (st' := [.int (iI (if 0 ≤ a ∧ a ≤ 4095 then 1 else 0))]) rfl ?_
  refine g_if_eqb X (tgt := 33) dX5_add_8 (by decide) rfl (fun h_1 => ?_) (fun h_1 => ?_)
  · refine g_bipush X (z := -2) (by decide +kernel) dX5_add_33 rfl ?_
    have hok : ¬ okAdd a b z := by unfold okAdd; omega
    exact g_iret X hret ⟨Nat.le_of_ble_eq_true rfl, Nat.le_of_ble_eq_true rfl⟩ dX5_add_35 ⟨by rw [anAdd, if_neg hok], rfl, by rw [opAdd, if_neg (fun q => hok q.1)]; exact hB.fin hR hO⟩
  · refine g_iload_n X 2 rfl dX5_add_11 rfl ?_
    refine g_iconst X (z := 0) dX5_add_12 rfl ?_
    refine g_sipush X (z := 1023) (by decide +kernel) dX5_add_13 rfl ?_
    refine g_callS X (ct_X5_isIn l b 0 1023) (As := [.int (iI b), .int (iI 0), .int (iI 1023)]) (rest := []) rfl ca_X5_isIn rfl wm_X5_41 wt_X5_isIn wc_X5_isIn w0_X5 ⟨by decide, by decide⟩ (by decide) ⟨by decide, by decide⟩ rfl dX5_add_16 rfl ⟨rfl, hb, ⟨by decide, by decide⟩, ⟨by decide, by decide⟩⟩ (fun r1 L1 M1 hq => ?_)
    obtain ⟨rfl, rfl, rfl⟩ := hq
    refine g_st (st' := [.int (iI (if 0 ≤ b ∧ b ≤ 1023 then 1 else 0))]) rfl ?_
    refine g_if_eqb X (tgt := 33) dX5_add_19 (by decide) rfl (fun h_2 => ?_) (fun h_2 => ?_)
    · refine g_bipush X (z := -2) (by decide +kernel) dX5_add_33 rfl ?_
      have hok : ¬ okAdd a b z := by unfold okAdd; omega
      exact g_iret X hret ⟨Nat.le_of_ble_eq_true rfl, Nat.le_of_ble_eq_true rfl⟩ dX5_add_35 ⟨by rw [anAdd, if_neg hok], rfl, by rw [opAdd, if_neg (fun q => hok q.1)]; exact hB.fin hR hO⟩
    · refine g_iload_n X 3 rfl dX5_add_22 rfl ?_
      refine g_iconst X (z := 1) dX5_add_23 rfl ?_
      refine g_sipush X (z := 200) (by decide +kernel) dX5_add_24 rfl ?_
      refine g_callS X (ct_X5_isIn l z 1 200) (As := [.int (iI z), .int (iI 1), .int (iI 200)]) (rest := []) rfl ca_X5_isIn rfl wm_X5_41 wt_X5_isIn wc_X5_isIn w0_X5 ⟨by decide, by decide⟩ (by decide) ⟨by decide, by decide⟩ rfl dX5_add_27 rfl ⟨rfl, hz, ⟨by decide, by decide⟩, ⟨by decide, by decide⟩⟩ (fun r1 L1 M1 hq => ?_)
      obtain ⟨rfl, rfl, rfl⟩ := hq
      refine g_st (st' := [.int (iI (if 1 ≤ z ∧ z ≤ 200 then 1 else 0))]) rfl ?_
      refine g_if_neb X (tgt := 36) dX5_add_30 (by decide) rfl (fun h_3 => ?_) (fun h_3 => ?_)
      · refine g_aload_n X 0 rfl dX5_add_36 rfl ?_
        refine g_get X cl_X5 0 (by decide) wf_X5_10 rfl (hA.mem (s := 10) (k := 0) (by unfold inD; omega)) hB.obj rfl dX5_add_37 rfl ?_
        refine g_getN X cl_X3 3 (by decide) wf_X5_62 rfl (hB.now.mem (i := 0) (by decide) (by decide)) hB.now.obj rfl dX5_add_40 rfl ?_
        refine g_iconst X (z := 4) dX5_add_43 rfl ?_
        refine g_icmp_lt X ⟨by omega, by omega⟩ ⟨by decide, by decide⟩ (tgt := 50) dX5_add_44 (by decide) rfl (fun h_4 => ?_) (fun h_4 => ?_)
        · refine g_aload_n X 0 rfl dX5_add_50 rfl ?_
          refine g_get X cl_X5 2 (by decide) wf_X5_22 rfl (hA.mem (s := 10) (k := 0) (by unfold inD; omega)) hB.obj rfl dX5_add_51 rfl ?_
          refine g_aload_n X 0 rfl dX5_add_54 rfl ?_
          refine g_get X cl_X5 0 (by decide) wf_X5_10 rfl (hA.mem (s := 10) (k := 0) (by unfold inD; omega)) hB.obj rfl dX5_add_55 rfl ?_
          refine g_callVN X (ct_X1_record l Sg st be c g) (host := "StrideBanks") (As := [.ref (Sg 0 0)]) (rest := []) cl_X1 rfl ca_X1_record rfl wm_X5_52 wi_X1_record ws_X1_record wc_X1_record w0_X1 ⟨by decide, by decide⟩ (hA.mem (s := 10) (k := 1) (by unfold inD; omega)) hB.hobj (by decide) ⟨by decide, by decide⟩ rfl dX5_add_58 rfl ⟨rfl, hA, hB.hist, hst, hB.now, hR, hI.1.2.2.2.2.2.2, fun j j0 j1 => (hWh j j0 j1).1.1.2.2.2.2.2.2⟩ (fun r1 L1 M_5 hq => ?_)
          obtain ⟨rfl, rfl, hH_6, hs_7, fr_8⟩ := hq
          obtain ⟨hB_9, hO_10⟩ := hB.toRec hH_6 hs_7 fr_8
          have hO_10 := hO.trans hO_10
          refine g_st (st' := []) rfl ?_
          refine g_aload_n X 0 rfl dX5_add_61 rfl ?_
          refine g_get X cl_X5 0 (by decide) wf_X5_10 rfl (hA.mem (s := 10) (k := 0) (by unfold inD; omega)) hB_9.obj rfl dX5_add_62 rfl ?_
          refine g_iload_n X 1 rfl dX5_add_65 rfl ?_
          refine g_iload_n X 2 rfl dX5_add_66 rfl ?_
          refine g_iload_n X 3 rfl dX5_add_67 rfl ?_
          refine g_callVN X (ct_X3_append l (Sg 0) c a b z) (host := "StrideBanks") (As := [.int (iI a), .int (iI b), .int (iI z)]) (rest := []) cl_X3 rfl ca_X3_append rfl wm_X5_66 wi_X3_append ws_X3_append wc_X3_append w0_X3 ⟨by decide, by decide⟩ (hB_9.now.mem (i := 0) (by decide) (by decide)) hB_9.now.obj (by decide) ⟨by decide, by decide⟩ rfl dX5_add_68 rfl ⟨rfl, hB_9.now, by omega⟩ (fun r1 L1 M_11 hq => ?_)
          obtain ⟨rfl, rfl, hs_12, fr_13⟩ := hq
          have hB_14 := hB_9.toNow hs_12 fr_13
          have hO_15 := hO_10.trans (outA.ofS (s := 0) (by decide) (by decide) fr_13)
          refine g_st (st' := []) rfl ?_
          refine g_aload_n X 0 rfl dX5_add_71 rfl ?_
          refine g_get X cl_X5 0 (by decide) wf_X5_10 rfl (hA.mem (s := 10) (k := 0) (by unfold inD; omega)) hB_14.obj rfl dX5_add_72 rfl ?_
          refine g_getN X cl_X3 3 (by decide) wf_X5_62 rfl (hB_14.now.mem (i := 0) (by decide) (by decide)) hB_14.now.obj rfl dX5_add_75 rfl ?_
          refine g_iconst X (z := 1) dX5_add_78 rfl ?_
          refine g_isub X dX5_add_79 rfl ?_
          have hok : okAdd a b z := by unfold okAdd; omega
          have h54 : ¬ g 5 = 4 := by omega
          have hv5 : (apC c a b z) 5 - 1 = g 5 := by rw [apC, up_eq]; omega
          have hR9 : Rel (apC c a b z) (putsG g a b z) := rel_puts hR (by omega) (by omega) (by omega)
          exact g_iret X hret ⟨Nat.le_of_ble_eq_true rfl, Nat.le_of_ble_eq_true rfl⟩ dX5_add_80 ⟨by rw [anAdd, if_pos hok, if_neg h54, hv5], rfl, by rw [opAdd, if_pos ⟨hok, h54⟩]; exact hB_14.fin hR9 hO_15⟩
        · refine g_bipush X (z := -4) (by decide +kernel) dX5_add_47 rfl ?_
          have hok : okAdd a b z := by unfold okAdd; omega
          have h54 : g 5 = 4 := by omega
          exact g_iret X hret ⟨Nat.le_of_ble_eq_true rfl, Nat.le_of_ble_eq_true rfl⟩ dX5_add_49 ⟨by rw [anAdd, if_pos hok, if_pos h54], rfl, by rw [opAdd, if_neg (fun q => q.2 h54)]; exact hB.fin hR hO⟩
      · refine g_bipush X (z := -2) (by decide +kernel) dX5_add_33 rfl ?_
        have hok : ¬ okAdd a b z := by unfold okAdd; omega
        exact g_iret X hret ⟨Nat.le_of_ble_eq_true rfl, Nat.le_of_ble_eq_true rfl⟩ dX5_add_35 ⟨by rw [anAdd, if_neg hok], rfl, by rw [opAdd, if_neg (fun q => hok q.1)]; exact hB.fin hR hO⟩
set_option maxRecDepth 100000 in
set_option maxHeartbeats 4000000 in
theorem ct_X5_reset (l : Launch) (Sg : Int → Int → Nat) (g be sa iz pa : Int → Int) (len st : Int) : Ct l yX5_reset cX5_reset 1 (some .int) 5 0 0 (fun ca av L M => av = [.ref (Sg 10 0)] ∧ SBm ca L M Sg (g, be, sa, iz, pa, len, st) ∧ WfA (g, be, sa, iz, pa, len, st)) (fun ca av L M r L1 M1 => r = some (.int (iI (anReset (g, be, sa, iz, pa, len, st)))) ∧ L = L1 ∧ SBo ca L M M1 Sg (opReset (g, be, sa, iz, pa, len, st))) := by
  refine Ct_of (own := RX5) (by decide) rfl (by rintro _ _ _ _ ⟨rfl, _⟩; exact Nat.le_of_ble_eq_true rfl) ?_
  rintro p e s m args below meth cod D ca A av L M ⟨rfl, hSB, hW⟩ X hret hname
  refine g_lv (lv' := [(0, .ref (Sg 10 0))]) [0] rfl ?_
  obtain ⟨c, ct, nf, nu, hB, hR⟩ : ∃ (c ct : Int → Int) (nf : Int) (nu : Int → Int), SBc ca L M Sg be sa iz pa nu len nf st c ct ∧ Rel c g := SBm.opn hSB
  have hA := hB.adr
  have hO := outA.refl Sg M
  obtain ⟨hWg, hln, hst, hpa, hWh, hWs⟩ : WfG g ∧ (0 ≤ len ∧ len ≤ 60) ∧ (0 ≤ st ∧ st ≤ 6) ∧ InvP pa ∧ (∀ j, 0 ≤ j → j < st → WfG (blk (110 * j) be)) ∧ (∀ k, 0 ≤ k → k < 2 → (iz k = 0 ∨ iz k = 1) ∧ (iz k ≠ 0 → WfG (blk (110 * k) sa))) := id hW
  obtain ⟨hI, hZ, h4⟩ := id hWg
  obtain ⟨⟨i00, i01⟩, ⟨i10, i11⟩, ⟨i20, i21⟩, ⟨i30, i31⟩, ⟨i40, i41⟩, i50, i51⟩ := id hI.1
  obtain ⟨⟨e0, e1, e2, e3, e4, e5⟩, hRB, hRR⟩ := id hR
  refine g_aload_n X 0 rfl dX5_reset_0 rfl ?_
  refine g_get X cl_X5 2 (by decide) wf_X5_22 rfl (hA.mem (s := 10) (k := 0) (by unfold inD; omega)) hB.obj rfl dX5_reset_1 rfl ?_
  refine g_aload_n X 0 rfl dX5_reset_4 rfl ?_
  refine g_get X cl_X5 0 (by decide) wf_X5_10 rfl (hA.mem (s := 10) (k := 0) (by unfold inD; omega)) hB.obj rfl dX5_reset_5 rfl ?_
  refine g_callVN X (ct_X1_record l Sg st be c g) (host := "StrideBanks") (As := [.ref (Sg 0 0)]) (rest := []) cl_X1 rfl ca_X1_record rfl wm_X5_52 wi_X1_record ws_X1_record wc_X1_record w0_X1 ⟨by decide, by decide⟩ (hA.mem (s := 10) (k := 1) (by unfold inD; omega)) hB.hobj (by decide) ⟨by decide, by decide⟩ rfl dX5_reset_8 rfl ⟨rfl, hA, hB.hist, hst, hB.now, hR, hI.1.2.2.2.2.2.2, fun j j0 j1 => (hWh j j0 j1).1.1.2.2.2.2.2.2⟩ (fun r1 L1 M_1 hq => ?_)
  obtain ⟨rfl, rfl, hH_2, hs_3, fr_4⟩ := hq
  obtain ⟨hB_5, hO_6⟩ := hB.toRec hH_2 hs_3 fr_4
  have hO_6 := hO.trans hO_6
  refine g_st (st' := []) rfl ?_
  refine g_aload_n X 0 rfl dX5_reset_11 rfl ?_
  refine g_get X cl_X5 0 (by decide) wf_X5_10 rfl (hA.mem (s := 10) (k := 0) (by unfold inD; omega)) hB_5.obj rfl dX5_reset_12 rfl ?_
  refine g_callVN X (ct_X3_beginAnew l (Sg 0) c) (host := "StrideBanks") (As := []) (rest := []) cl_X3 rfl ca_X3_beginAnew rfl wm_X5_59 wi_X3_beginAnew ws_X3_beginAnew wc_X3_beginAnew w0_X3 ⟨by decide, by decide⟩ (hB_5.now.mem (i := 0) (by decide) (by decide)) hB_5.now.obj (by decide) ⟨by decide, by decide⟩ rfl dX5_reset_15 rfl ⟨rfl, hB_5.now, by omega⟩ (fun r1 L1 M_7 hq => ?_)
  obtain ⟨rfl, rfl, hs_8, fr_9⟩ := hq
  have hB_10 := hB_5.toNow hs_8 fr_9
  have hO_11 := hO_6.trans (outA.ofS (s := 0) (by decide) (by decide) fr_9)
  refine g_st (st' := []) rfl ?_
  refine g_aload_n X 0 rfl dX5_reset_18 rfl ?_
  refine g_get X cl_X5 0 (by decide) wf_X5_10 rfl (hA.mem (s := 10) (k := 0) (by unfold inD; omega)) hB_10.obj rfl dX5_reset_19 rfl ?_
  refine g_iconst X (z := 3) dX5_reset_22 rfl ?_
  have hR2 : Rel (bgC c) (bgaG g) := rel_bga hR.L (by omega) hI.L
  have b5 : bgC c 5 = c 5 := bgC_5 c
  have g5 : bgaG g 5 = g 5 := bga_low (by decide) (by decide)
  refine g_callVN X (ct_X3_total l (Sg 0) (bgC c) 3) (host := "StrideBanks") (As := [.int (iI 3)]) (rest := []) cl_X3 rfl ca_X3_total rfl wm_X5_111 wi_X3_total ws_X3_total wc_X3_total w0_X3 ⟨by decide, by decide⟩ (hB_10.now.mem (i := 0) (by decide) (by decide)) hB_10.now.obj (by decide) ⟨by decide, by decide⟩ rfl dX5_reset_23 rfl ⟨rfl, hB_10.now, hR2.rows (bga_inv hI.1 hI.L), (by omega), ⟨by decide, by decide⟩⟩ (fun r1 L1 M1 hq => ?_)
  obtain ⟨rfl, rfl, rfl⟩ := hq
  refine g_st (st' := [.int (iI (toS (bgC c) 3 ((bgC c) 5).toNat))]) rfl ?_
  exact g_iret X hret ⟨Nat.le_of_ble_eq_true rfl, Nat.le_of_ble_eq_true rfl⟩ dX5_reset_26 ⟨by rw [anReset, tot_left hR2 (by omega)], rfl, by rw [opReset]; exact hB_10.fin hR2 hO_11⟩
set_option maxRecDepth 100000 in
set_option maxHeartbeats 4000000 in
theorem ct_X5_drop (l : Launch) (Sg : Int → Int → Nat) (g be sa iz pa : Int → Int) (len st : Int) (i : Int) : Ct l yX5_drop cX5_drop 3 (some .int) 5 0 0 (fun ca av L M => av = [.ref (Sg 10 0), .int (iI i)] ∧ SBm ca L M Sg (g, be, sa, iz, pa, len, st) ∧ WfA (g, be, sa, iz, pa, len, st) ∧ R32 i) (fun ca av L M r L1 M1 => r = some (.int (iI (anDrop (g, be, sa, iz, pa, len, st) i))) ∧ L = L1 ∧ SBo ca L M M1 Sg (opDrop (g, be, sa, iz, pa, len, st) i)) := by
  refine Ct_of (own := RX5) (by decide) rfl (by rintro _ _ _ _ ⟨rfl, _⟩; exact Nat.le_of_ble_eq_true rfl) ?_
  rintro p e s m args below meth cod D ca A av L M ⟨rfl, hSB, hW, hi⟩ X hret hname
  refine g_lv (lv' := [(0, .ref (Sg 10 0)), (1, .int (iI i))]) [0, 1] rfl ?_
  obtain ⟨c, ct, nf, nu, hB, hR⟩ : ∃ (c ct : Int → Int) (nf : Int) (nu : Int → Int), SBc ca L M Sg be sa iz pa nu len nf st c ct ∧ Rel c g := SBm.opn hSB
  have hA := hB.adr
  have hO := outA.refl Sg M
  obtain ⟨hWg, hln, hst, hpa, hWh, hWs⟩ : WfG g ∧ (0 ≤ len ∧ len ≤ 60) ∧ (0 ≤ st ∧ st ≤ 6) ∧ InvP pa ∧ (∀ j, 0 ≤ j → j < st → WfG (blk (110 * j) be)) ∧ (∀ k, 0 ≤ k → k < 2 → (iz k = 0 ∨ iz k = 1) ∧ (iz k ≠ 0 → WfG (blk (110 * k) sa))) := id hW
  obtain ⟨hI, hZ, h4⟩ := id hWg
  obtain ⟨⟨i00, i01⟩, ⟨i10, i11⟩, ⟨i20, i21⟩, ⟨i30, i31⟩, ⟨i40, i41⟩, i50, i51⟩ := id hI.1
  obtain ⟨⟨e0, e1, e2, e3, e4, e5⟩, hRB, hRR⟩ := id hR
  refine g_aload_n X 0 rfl dX5_drop_0 rfl ?_
  refine g_get X cl_X5 0 (by decide) wf_X5_10 rfl (hA.mem (s := 10) (k := 0) (by unfold inD; omega)) hB.obj rfl dX5_drop_1 rfl ?_
  refine g_iload_n X 1 rfl dX5_drop_4 rfl ?_
  refine g_callVN X (ct_X3_has l (Sg 0) c i) (host := "StrideBanks") (As := [.int (iI i)]) (rest := []) cl_X3 rfl ca_X3_has rfl wm_X5_84 wi_X3_has ws_X3_has wc_X3_has w0_X3 ⟨by decide, by decide⟩ (hB.now.mem (i := 0) (by decide) (by decide)) hB.now.obj (by decide) ⟨by decide, by decide⟩ rfl dX5_drop_5 rfl ⟨rfl, hB.now, hi, (by omega)⟩ (fun r1 L1 M1 hq => ?_)
  obtain ⟨rfl, rfl, rfl⟩ := hq
  refine g_st (st' := [.int (iI (if 0 ≤ i ∧ i < c 5 then 1 else 0))]) rfl ?_
  refine g_if_neb X (tgt := 13) dX5_drop_8 (by decide) rfl (fun h_1 => ?_) (fun h_1 => ?_)
  · refine g_aload_n X 0 rfl dX5_drop_13 rfl ?_
    refine g_get X cl_X5 2 (by decide) wf_X5_22 rfl (hA.mem (s := 10) (k := 0) (by unfold inD; omega)) hB.obj rfl dX5_drop_14 rfl ?_
    refine g_aload_n X 0 rfl dX5_drop_17 rfl ?_
    refine g_get X cl_X5 0 (by decide) wf_X5_10 rfl (hA.mem (s := 10) (k := 0) (by unfold inD; omega)) hB.obj rfl dX5_drop_18 rfl ?_
    refine g_callVN X (ct_X1_record l Sg st be c g) (host := "StrideBanks") (As := [.ref (Sg 0 0)]) (rest := []) cl_X1 rfl ca_X1_record rfl wm_X5_52 wi_X1_record ws_X1_record wc_X1_record w0_X1 ⟨by decide, by decide⟩ (hA.mem (s := 10) (k := 1) (by unfold inD; omega)) hB.hobj (by decide) ⟨by decide, by decide⟩ rfl dX5_drop_21 rfl ⟨rfl, hA, hB.hist, hst, hB.now, hR, hI.1.2.2.2.2.2.2, fun j j0 j1 => (hWh j j0 j1).1.1.2.2.2.2.2.2⟩ (fun r1 L1 M_2 hq => ?_)
    obtain ⟨rfl, rfl, hH_3, hs_4, fr_5⟩ := hq
    obtain ⟨hB_6, hO_7⟩ := hB.toRec hH_3 hs_4 fr_5
    have hO_7 := hO.trans hO_7
    refine g_st (st' := []) rfl ?_
    refine g_aload_n X 0 rfl dX5_drop_24 rfl ?_
    refine g_get X cl_X5 0 (by decide) wf_X5_10 rfl (hA.mem (s := 10) (k := 0) (by unfold inD; omega)) hB_6.obj rfl dX5_drop_25 rfl ?_
    refine g_getN X cl_X3 1 (by decide) wf_X5_88 rfl (hB_6.now.mem (i := 0) (by decide) (by decide)) hB_6.now.obj rfl dX5_drop_28 rfl ?_
    refine g_iload_n X 1 rfl dX5_drop_31 rfl ?_
    refine g_aald X (t := 5) rfl (hB_6.now.mem (i := 2) (by decide) (by decide)) hB_6.now.strs ⟨by omega, by omega⟩ (by decide) (if_pos (by omega)) dX5_drop_32 rfl ?_
    have hw_8 : M_2 (Sg 0 (20 + i)) = .inr (4, [.int (iI (c (70 + 10 * i))), .int (iI (c (70 + 10 * i + 1))), .int (iI (c (70 + 10 * i + 2))), .int (iI (c (70 + 10 * i + 3))), .int (iI (c (70 + 10 * i + 4))), .int (iI (c (70 + 10 * i + 5))), .int (iI (c (70 + 10 * i + 6))), .int (iI (c (70 + 10 * i + 7)))]) := (hB_6.now.row (by omega) (by omega))
    refine g_getN X cl_X4 3 (by decide) wf_X5_92 rfl (hB_6.now.mem (by omega) (by omega)) hw_8 rfl dX5_drop_33 rfl ?_
    refine g_istore_n X (lv' := [(2, .int (iI (c (70 + 10 * i + 3)))), (0, .ref (Sg 10 0)), (1, .int (iI i))]) (by decide) rfl dX5_drop_36 rfl ?_
    refine g_aload_n X 1 rfl dX5_drop_37 rfl ?_
    refine g_get X cl_X5 0 (by decide) wf_X5_10 rfl (hA.mem (s := 10) (k := 0) (by unfold inD; omega)) hB_6.obj rfl dX5_drop_38 rfl ?_
    refine g_iload_n X 2 rfl dX5_drop_41 rfl ?_
    refine g_callVN X (ct_X3_remove l (Sg 0) c i) (host := "StrideBanks") (As := [.int (iI i)]) (rest := []) cl_X3 rfl ca_X3_remove rfl wm_X5_97 wi_X3_remove ws_X3_remove wc_X3_remove w0_X3 ⟨by decide, by decide⟩ (hB_6.now.mem (i := 0) (by decide) (by decide)) hB_6.now.obj (by decide) ⟨by decide, by decide⟩ rfl dX5_drop_42 rfl ⟨rfl, hB_6.now, by omega, by omega, fun b b0 b1 => (hRB b b0 b1).2.2.2.2⟩ (fun r1 L1 M_9 hq => ?_)
    obtain ⟨rfl, rfl, hs_10, fr_11⟩ := hq
    obtain ⟨hB9, hin9, hO9⟩ := hB_6.toRot (by omega : 0 ≤ i) (by omega : i < c 5) (by omega) hs_10 fr_11
    refine g_st (st' := []) rfl ?_
    refine g_iload_n X 0 rfl dX5_drop_45 rfl ?_
    have hn : isStr g i := by unfold isStr; omega
    have hR9 : Rel (rmC c i) (dropG g i) := rel_drop hR (by omega) (by omega) (by omega)
    exact g_iret X hret ⟨Nat.le_of_ble_eq_true rfl, Nat.le_of_ble_eq_true rfl⟩ dX5_drop_46 ⟨by rw [anDrop, if_pos hn]; exact congrArg _ (congrArg _ (congrArg iI (hRR i (by omega) (by omega)).2.2.2.1)), rfl, by rw [opDrop, if_pos hn]; exact ⟨_, hB9.m hR9, by rw [roG_ne _ _ (by decide)], hin9, hO_7.trans hO9⟩⟩
  · refine g_iconst X (z := -1) dX5_drop_11 rfl ?_
    have hn : ¬ isStr g i := by unfold isStr; omega
    exact g_iret X hret ⟨Nat.le_of_ble_eq_true rfl, Nat.le_of_ble_eq_true rfl⟩ dX5_drop_12 ⟨by rw [anDrop, if_neg hn], rfl, by rw [opDrop, if_neg hn]; exact hB.fin hR hO⟩
set_option maxRecDepth 100000 in
set_option maxHeartbeats 4000000 in
theorem ct_X5_stride (l : Launch) (Sg : Int → Int → Nat) (g be sa iz pa : Int → Int) (len st : Int) (i v : Int) : Ct l yX5_stride cX5_stride 4 (some .int) 5 0 0 (fun ca av L M => av = [.ref (Sg 10 0), .int (iI i), .int (iI v)] ∧ SBm ca L M Sg (g, be, sa, iz, pa, len, st) ∧ WfA (g, be, sa, iz, pa, len, st) ∧ R32 i ∧ R32 v) (fun ca av L M r L1 M1 => r = some (.int (iI (anStride (g, be, sa, iz, pa, len, st) i v))) ∧ L = L1 ∧ SBo ca L M M1 Sg (opStride (g, be, sa, iz, pa, len, st) i v)) := by
  refine Ct_of (own := RX5) (by decide) rfl (by rintro _ _ _ _ ⟨rfl, _⟩; exact Nat.le_of_ble_eq_true rfl) ?_
  rintro p e s m args below meth cod D ca A av L M ⟨rfl, hSB, hW, hi, hv⟩ X hret hname
  refine g_lv (lv' := [(0, .ref (Sg 10 0)), (1, .int (iI i)), (2, .int (iI v))]) [0, 1, 2] rfl ?_
  obtain ⟨c, ct, nf, nu, hB, hR⟩ : ∃ (c ct : Int → Int) (nf : Int) (nu : Int → Int), SBc ca L M Sg be sa iz pa nu len nf st c ct ∧ Rel c g := SBm.opn hSB
  have hA := hB.adr
  have hO := outA.refl Sg M
  obtain ⟨hWg, hln, hst, hpa, hWh, hWs⟩ : WfG g ∧ (0 ≤ len ∧ len ≤ 60) ∧ (0 ≤ st ∧ st ≤ 6) ∧ InvP pa ∧ (∀ j, 0 ≤ j → j < st → WfG (blk (110 * j) be)) ∧ (∀ k, 0 ≤ k → k < 2 → (iz k = 0 ∨ iz k = 1) ∧ (iz k ≠ 0 → WfG (blk (110 * k) sa))) := id hW
  obtain ⟨hI, hZ, h4⟩ := id hWg
  obtain ⟨⟨i00, i01⟩, ⟨i10, i11⟩, ⟨i20, i21⟩, ⟨i30, i31⟩, ⟨i40, i41⟩, i50, i51⟩ := id hI.1
  obtain ⟨⟨e0, e1, e2, e3, e4, e5⟩, hRB, hRR⟩ := id hR
  refine g_aload_n X 0 rfl dX5_stride_0 rfl ?_
  refine g_get X cl_X5 0 (by decide) wf_X5_10 rfl (hA.mem (s := 10) (k := 0) (by unfold inD; omega)) hB.obj rfl dX5_stride_1 rfl ?_
  refine g_iload_n X 1 rfl dX5_stride_4 rfl ?_
  refine g_callVN X (ct_X3_has l (Sg 0) c i) (host := "StrideBanks") (As := [.int (iI i)]) (rest := []) cl_X3 rfl ca_X3_has rfl wm_X5_84 wi_X3_has ws_X3_has wc_X3_has w0_X3 ⟨by decide, by decide⟩ (hB.now.mem (i := 0) (by decide) (by decide)) hB.now.obj (by decide) ⟨by decide, by decide⟩ rfl dX5_stride_5 rfl ⟨rfl, hB.now, hi, (by omega)⟩ (fun r1 L1 M1 hq => ?_)
  obtain ⟨rfl, rfl, rfl⟩ := hq
  refine g_st (st' := [.int (iI (if 0 ≤ i ∧ i < c 5 then 1 else 0))]) rfl ?_
  refine g_if_neb X (tgt := 13) dX5_stride_8 (by decide) rfl (fun h_1 => ?_) (fun h_1 => ?_)
  · refine g_iload_n X 2 rfl dX5_stride_13 rfl ?_
    refine g_iconst X (z := 0) dX5_stride_14 rfl ?_
    refine g_sipush X (z := 1023) (by decide +kernel) dX5_stride_15 rfl ?_
    refine g_callS X (ct_X5_isIn l v 0 1023) (As := [.int (iI v), .int (iI 0), .int (iI 1023)]) (rest := []) rfl ca_X5_isIn rfl wm_X5_41 wt_X5_isIn wc_X5_isIn w0_X5 ⟨by decide, by decide⟩ (by decide) ⟨by decide, by decide⟩ rfl dX5_stride_18 rfl ⟨rfl, hv, ⟨by decide, by decide⟩, ⟨by decide, by decide⟩⟩ (fun r1 L1 M1 hq => ?_)
    obtain ⟨rfl, rfl, rfl⟩ := hq
    refine g_st (st' := [.int (iI (if 0 ≤ v ∧ v ≤ 1023 then 1 else 0))]) rfl ?_
    refine g_if_neb X (tgt := 27) dX5_stride_21 (by decide) rfl (fun h_2 => ?_) (fun h_2 => ?_)
    · refine g_aload_n X 0 rfl dX5_stride_27 rfl ?_
      refine g_get X cl_X5 2 (by decide) wf_X5_22 rfl (hA.mem (s := 10) (k := 0) (by unfold inD; omega)) hB.obj rfl dX5_stride_28 rfl ?_
      refine g_aload_n X 0 rfl dX5_stride_31 rfl ?_
      refine g_get X cl_X5 0 (by decide) wf_X5_10 rfl (hA.mem (s := 10) (k := 0) (by unfold inD; omega)) hB.obj rfl dX5_stride_32 rfl ?_
      refine g_callVN X (ct_X1_record l Sg st be c g) (host := "StrideBanks") (As := [.ref (Sg 0 0)]) (rest := []) cl_X1 rfl ca_X1_record rfl wm_X5_52 wi_X1_record ws_X1_record wc_X1_record w0_X1 ⟨by decide, by decide⟩ (hA.mem (s := 10) (k := 1) (by unfold inD; omega)) hB.hobj (by decide) ⟨by decide, by decide⟩ rfl dX5_stride_35 rfl ⟨rfl, hA, hB.hist, hst, hB.now, hR, hI.1.2.2.2.2.2.2, fun j j0 j1 => (hWh j j0 j1).1.1.2.2.2.2.2.2⟩ (fun r1 L1 M_3 hq => ?_)
      obtain ⟨rfl, rfl, hH_4, hs_5, fr_6⟩ := hq
      obtain ⟨hB_7, hO_8⟩ := hB.toRec hH_4 hs_5 fr_6
      have hO_8 := hO.trans hO_8
      refine g_st (st' := []) rfl ?_
      refine g_aload_n X 0 rfl dX5_stride_38 rfl ?_
      refine g_get X cl_X5 0 (by decide) wf_X5_10 rfl (hA.mem (s := 10) (k := 0) (by unfold inD; omega)) hB_7.obj rfl dX5_stride_39 rfl ?_
      refine g_getN X cl_X3 1 (by decide) wf_X5_88 rfl (hB_7.now.mem (i := 0) (by decide) (by decide)) hB_7.now.obj rfl dX5_stride_42 rfl ?_
      refine g_iload_n X 1 rfl dX5_stride_45 rfl ?_
      refine g_aald X (t := 5) rfl (hB_7.now.mem (i := 2) (by decide) (by decide)) hB_7.now.strs ⟨by omega, by omega⟩ (by decide) (if_pos (by omega)) dX5_stride_46 rfl ?_
      have hw_9 : M_3 (Sg 0 (20 + i)) = .inr (4, [.int (iI (c (70 + 10 * i))), .int (iI (c (70 + 10 * i + 1))), .int (iI (c (70 + 10 * i + 2))), .int (iI (c (70 + 10 * i + 3))), .int (iI (c (70 + 10 * i + 4))), .int (iI (c (70 + 10 * i + 5))), .int (iI (c (70 + 10 * i + 6))), .int (iI (c (70 + 10 * i + 7)))]) := (hB_7.now.row (by omega) (by omega))
      refine g_getN X cl_X4 1 (by decide) wf_X5_101 rfl (hB_7.now.mem (by omega) (by omega)) hw_9 rfl dX5_stride_47 rfl ?_
      refine g_istore_n X (lv' := [(3, .int (iI (c (70 + 10 * i + 1)))), (0, .ref (Sg 10 0)), (1, .int (iI i)), (2, .int (iI v))]) (by decide) rfl dX5_stride_50 rfl ?_
      refine g_aload_n X 1 rfl dX5_stride_51 rfl ?_
      refine g_get X cl_X5 0 (by decide) wf_X5_10 rfl (hA.mem (s := 10) (k := 0) (by unfold inD; omega)) hB_7.obj rfl dX5_stride_52 rfl ?_
      refine g_getN X cl_X3 1 (by decide) wf_X5_88 rfl (hB_7.now.mem (i := 0) (by decide) (by decide)) hB_7.now.obj rfl dX5_stride_55 rfl ?_
      refine g_iload_n X 2 rfl dX5_stride_58 rfl ?_
      refine g_aald X (t := 5) rfl (hB_7.now.mem (i := 2) (by decide) (by decide)) hB_7.now.strs ⟨by omega, by omega⟩ (by decide) (if_pos (by omega)) dX5_stride_59 rfl ?_
      refine g_iload_n X 3 rfl dX5_stride_60 rfl ?_
      refine g_putN X cl_X4 1 (by decide) wf_X5_101 rfl (hB_7.now.mem (by omega) (by omega)) hw_9 rfl rfl rfl (Nat.le_of_ble_eq_true rfl) (fs' := [.int (iI (c (70 + 10 * i))), .int (iI v), .int (iI (c (70 + 10 * i + 2))), .int (iI (c (70 + 10 * i + 3))), .int (iI (c (70 + 10 * i + 4))), .int (iI (c (70 + 10 * i + 5))), .int (iI (c (70 + 10 * i + 6))), .int (iI (c (70 + 10 * i + 7)))]) rfl dX5_stride_61 rfl (fun M_10 hM_11 fr_12 => ?_)
      have hB_13 := hB_7.toNow (hB_7.now.putStride (i := i) (v := v) (by omega) (by omega) hM_11 fr_12) (outS.one (i := 20 + i) (by omega) (by omega) fr_12)
      have hO_14 := hO_8.trans (outA.one (s := 0) (k := 20 + i) (by unfold inD; omega) fr_12)
      refine g_iload_n X 0 rfl dX5_stride_64 rfl ?_
      have hn : isStr g i := by unfold isStr; omega
      have hv2 : 0 ≤ v ∧ v ≤ 1023 := by omega
      have hR9 : Rel (up c (70 + 10 * i + 1) v) (strG g i v) := rel_stride hR (by omega)
      exact g_iret X hret ⟨Nat.le_of_ble_eq_true rfl, Nat.le_of_ble_eq_true rfl⟩ dX5_stride_65 ⟨by rw [anStride, if_pos hn, if_pos hv2]; exact congrArg _ (congrArg _ (congrArg iI (hRR i (by omega) (by omega)).2.1)), rfl, by rw [opStride, if_pos ⟨hn, hv2⟩]; exact hB_13.fin hR9 hO_14⟩
    · refine g_bipush X (z := -2) (by decide +kernel) dX5_stride_24 rfl ?_
      have hn : isStr g i := by unfold isStr; omega
      have hv2 : ¬ (0 ≤ v ∧ v ≤ 1023) := by omega
      exact g_iret X hret ⟨Nat.le_of_ble_eq_true rfl, Nat.le_of_ble_eq_true rfl⟩ dX5_stride_26 ⟨by rw [anStride, if_pos hn, if_neg hv2], rfl, by rw [opStride, if_neg (fun q => hv2 q.2)]; exact hB.fin hR hO⟩
  · refine g_iconst X (z := -1) dX5_stride_11 rfl ?_
    have hn : ¬ isStr g i := by unfold isStr; omega
    exact g_iret X hret ⟨Nat.le_of_ble_eq_true rfl, Nat.le_of_ble_eq_true rfl⟩ dX5_stride_12 ⟨by rw [anStride, if_neg hn], rfl, by rw [opStride, if_neg (fun q => hn q.1)]; exact hB.fin hR hO⟩
