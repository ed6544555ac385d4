/-! the class: set -/
theorem tS_rng {k : Int} (h : 0 ≤ k ∧ k ≤ 3) : (0 ≤ tLS k ∧ tLS k ≤ 2) ∧ 1 ≤ tMS k ∧ tMS k ≤ 16 := by
  rcases (by omega : k = 0 ∨ k = 1 ∨ k = 2 ∨ k = 3) with h | h | h | h <;> subst h <;> decide
theorem RelS.at {c g : Int → Int} (h : RelS c g) {k : Int} (h0 : 0 ≤ k) (h1 : k < 6) : c k = g k := by
  obtain ⟨e0, e1, e2, e3, e4, e5⟩ := h
  rcases (by omega : k = 0 ∨ k = 1 ∨ k = 2 ∨ k = 3 ∨ k = 4 ∨ k = 5) with h | h | h | h | h | h <;> subst h <;> assumption
set_option maxRecDepth 100000 in
set_option maxHeartbeats 4000000 in
theorem ct_X5_set (l : Launch) (Sg : Int → Int → Nat) (g be sa iz pa : Int → Int) (len st : Int) (k v : Int) : Ct l yX5_set cX5_set 4 (some .int) 5 0 0 (fun ca av L M => av = [.ref (Sg 10 0), .int (iI k), .int (iI v)] ∧ SBm ca L M Sg (g, be, sa, iz, pa, len, st) ∧ WfA (g, be, sa, iz, pa, len, st) ∧ R32 k ∧ R32 v) (fun ca av L M r L1 M1 => r = some (.int (iI (anSet (g, be, sa, iz, pa, len, st) k v))) ∧ L = L1 ∧ SBo ca L M M1 Sg (opSet (g, be, sa, iz, pa, len, st) k v)) := by
  refine Ct_of (own := RX5) (by decide) rfl (by rintro _ _ _ _ ⟨rfl, _⟩; exact Nat.le_of_ble_eq_true rfl) ?_
  rintro p e s m args below meth cod D ca A av L M ⟨rfl, hSB, hW, hk, hv⟩ X hret hname
  refine g_lv (lv' := [(0, .ref (Sg 10 0)), (1, .int (iI k)), (2, .int (iI v))]) [0, 1, 2] rfl ?_
  obtain ⟨hA, hFX, hPD, hH, ⟨c, hs, hR⟩, ⟨ct, ht⟩, hSL⟩ : Adr L Sg ∧ FX ca M Sg iz ∧ PD ca M Sg pa len ∧ HS ca L M Sg st be ∧ (∃ c, isSt ca L M (Sg 0) c ∧ Rel c g) ∧ (∃ c, isSt ca L M (Sg 1) c) ∧ SL ca L M Sg sa iz := hSB
  obtain ⟨hWg, hln, hst, hpa, hWh, hWs⟩ : WfG g ∧ (0 ≤ len ∧ len ≤ 60) ∧ (0 ≤ st ∧ st ≤ 6) ∧ InvP pa ∧ (∀ j, 0 ≤ j → j < st → WfG (blk (110 * j) be)) ∧ (∀ k, 0 ≤ k → k < 2 → (iz k = 0 ∨ iz k = 1) ∧ (iz k ≠ 0 → WfG (blk (110 * k) sa))) := id hW
  obtain ⟨hI, hZ, h4⟩ := id hWg
  obtain ⟨⟨i00, i01⟩, ⟨i10, i11⟩, ⟨i20, i21⟩, ⟨i30, i31⟩, ⟨i40, i41⟩, i50, i51⟩ := id hI.1
  obtain ⟨⟨e0, e1, e2, e3, e4, e5⟩, hRB, hRR⟩ := id hR
  refine g_iload_n X 1 rfl dX5_set_0 rfl ?_
  refine g_iconst X (z := 0) dX5_set_1 rfl ?_
  refine g_iconst X (z := 3) dX5_set_2 rfl ?_
  refine g_callS X (ct_X5_isIn l k 0 3) (As := [.int (iI k), .int (iI 0), .int (iI 3)]) (rest := []) rfl ca_X5_isIn rfl wm_X5_41 wt_X5_isIn wc_X5_isIn w0_X5 ⟨by decide, by decide⟩ (by decide) ⟨by decide, by decide⟩ rfl dX5_set_3 rfl ⟨rfl, hk, ⟨by decide, by decide⟩, ⟨by decide, by decide⟩⟩ (fun r1 L1 M1 hq => ?_)
  obtain ⟨rfl, rfl, rfl⟩ := hq
  refine g_st (st' := [.int (iI (if 0 ≤ k ∧ k ≤ 3 then 1 else 0))]) rfl ?_
  refine g_if_neb X (tgt := 12) dX5_set_6 (by decide) rfl (fun h_1 => ?_) (fun h_1 => ?_)
  · refine g_iload_n X 2 rfl dX5_set_12 rfl ?_
    refine g_gets X (host := "StrideBanks") wf_X5_45 X.2.2.2.1.1 dX5_set_13 rfl (fun t_2 hT_3 => ?_)
    refine g_iload_n X 1 rfl dX5_set_16 rfl ?_
    refine g_ti X hT_3 ⟨by omega, by omega⟩ (by decide) dX5_set_17 rfl ?_
    refine g_gets X (host := "StrideBanks") wf_X5_49 X.2.2.2.1.2.1 dX5_set_18 rfl (fun t_4 hT_5 => ?_)
    refine g_iload_n X 1 rfl dX5_set_21 rfl ?_
    refine g_ti X hT_5 ⟨by omega, by omega⟩ (by decide) dX5_set_22 rfl ?_
    have hts := tS_rng (k := k) (by omega)
    refine g_callS X (ct_X5_isIn l v (tLS k) (tMS k)) (As := [.int (iI v), .int (iI (tLS k)), .int (iI (tMS k))]) (rest := []) rfl ca_X5_isIn rfl wm_X5_41 wt_X5_isIn wc_X5_isIn w0_X5 ⟨by decide, by decide⟩ (by decide) ⟨by decide, by decide⟩ rfl dX5_set_23 rfl ⟨rfl, hv, ⟨by omega, by omega⟩, ⟨by omega, by omega⟩⟩ (fun r1 L1 M1 hq => ?_)
    obtain ⟨rfl, rfl, rfl⟩ := hq
    refine g_st (st' := [.int (iI (if tLS k ≤ v ∧ v ≤ tMS k then 1 else 0))]) rfl ?_
    refine g_if_neb X (tgt := 32) dX5_set_26 (by decide) rfl (fun h_6 => ?_) (fun h_6 => ?_)
    · refine g_aload_n X 0 rfl dX5_set_32 rfl ?_
      refine g_get X cl_X5 2 (by decide) wf_X5_22 rfl (hA.mem (s := 10) (k := 0) (by unfold inD; omega)) hFX.1 rfl dX5_set_33 rfl ?_
      refine g_aload_n X 0 rfl dX5_set_36 rfl ?_
      refine g_get X cl_X5 0 (by decide) wf_X5_10 rfl (hA.mem (s := 10) (k := 0) (by unfold inD; omega)) hFX.1 rfl dX5_set_37 rfl ?_
      refine g_callVN X (ct_X1_record l Sg st be c g) (host := "StrideBanks") (As := [.ref (Sg 0 0)]) (rest := []) cl_X1 rfl ca_X1_record rfl wm_X5_52 wi_X1_record ws_X1_record wc_X1_record w0_X1 ⟨by decide, by decide⟩ (hA.mem (s := 10) (k := 1) (by unfold inD; omega)) hH.obj (by decide) ⟨by decide, by decide⟩ rfl dX5_set_40 rfl ⟨rfl, hA, hH, hst, hs, hR, hI.1.2.2.2.2.2.2, fun j j0 j1 => (hWh j j0 j1).1.1.2.2.2.2.2.2⟩ (fun r1 L1 M_7 hq => ?_)
      obtain ⟨rfl, rfl, hH_8, hs_9, fr_10⟩ := hq
      have hM_11 : M_7 (Sg 10 0) = .inr (5, [.ref (Sg 0 0), .ref (Sg 1 0), .ref (Sg 10 1), .ref (Sg 10 3), .ref (Sg 10 4), .ref (Sg 10 5)]) := (fr_10 _ (fun k2 a2 b2 => hA.ne (by unfold inD; omega) (by unfold inD; omega) (by omega)) (fun s2 k2 a2 b2 d2 e2 => hA.ne (by unfold inD; omega) (by unfold inD; omega) (by omega))).trans hFX.1
      refine g_st (st' := []) rfl ?_
      refine g_aload_n X 0 rfl dX5_set_43 rfl ?_
      refine g_get X cl_X5 0 (by decide) wf_X5_10 rfl (hA.mem (s := 10) (k := 0) (by unfold inD; omega)) hM_11 rfl dX5_set_44 rfl ?_
      refine g_getN X cl_X3 0 (by decide) wf_X5_56 rfl (hs_9.mem (i := 0) (by decide) (by decide)) hs_9.obj rfl dX5_set_47 rfl ?_
      refine g_iload_n X 1 rfl dX5_set_50 rfl ?_
      refine g_iald X (hs_9.mem (i := 1) (by decide) (by decide)) hs_9.set ⟨by omega, by omega⟩ (by decide) dX5_set_51 rfl ?_
      refine g_istore_n X (lv' := [(3, .int (iI (c k))), (0, .ref (Sg 10 0)), (1, .int (iI k)), (2, .int (iI v))]) (by decide) rfl dX5_set_52 rfl ?_
      refine g_aload_n X 1 rfl dX5_set_53 rfl ?_
      refine g_get X cl_X5 0 (by decide) wf_X5_10 rfl (hA.mem (s := 10) (k := 0) (by unfold inD; omega)) hM_11 rfl dX5_set_54 rfl ?_
      refine g_getN X cl_X3 0 (by decide) wf_X5_56 rfl (hs_9.mem (i := 0) (by decide) (by decide)) hs_9.obj rfl dX5_set_57 rfl ?_
      refine g_iload_n X 2 rfl dX5_set_60 rfl ?_
      refine g_iload_n X 3 rfl dX5_set_61 rfl ?_
      refine g_iast X (hs_9.mem (i := 1) (by decide) (by decide)) hs_9.set ⟨by omega, by omega⟩ (by decide) dX5_set_62 rfl (fun M_12 hM_13 fr_14 => ?_)
      obtain ⟨g_15, hg_16⟩ : ∃ x : Int → Int, x = up c k v := ⟨_, rfl⟩
      rw [← hg_16] at hM_13
      have hM_17 : M_12 (Sg 10 0) = .inr (5, [.ref (Sg 0 0), .ref (Sg 1 0), .ref (Sg 10 1), .ref (Sg 10 3), .ref (Sg 10 4), .ref (Sg 10 5)]) := (fr_14 (Sg 10 0) (hA.ne (by unfold inD; omega) (by unfold inD; omega) (by omega))).trans hM_11
      have hM_18 : M_12 (Sg 0 0) = .inr (3, [.ref (Sg 0 1), .ref (Sg 0 2), .ref (Sg 0 3), .int (iI (c 5)), .int (iI (c 4))]) := (fr_14 (Sg 0 0) (hA.ne (by unfold inD; omega) (by unfold inD; omega) (by omega))).trans hs_9.obj
      have hM_19 : M_12 (Sg 0 2) = cR ca 5 4 (fun j => if j < 4 then some (Sg 0 (20 + j)) else none) := (fr_14 (Sg 0 2) (hA.ne (by unfold inD; omega) (by unfold inD; omega) (by omega))).trans hs_9.strs
      have hM_20 : M_12 (Sg 0 3) = cR ca 3 16 (fun j => if j < 16 then some (Sg 0 (4 + j)) else none) := (fr_14 (Sg 0 3) (hA.ne (by unfold inD; omega) (by unfold inD; omega) (by omega))).trans hs_9.bks
      refine g_aload_n X 1 rfl dX5_set_63 rfl ?_
      refine g_get X cl_X5 0 (by decide) wf_X5_10 rfl (hA.mem (s := 10) (k := 0) (by unfold inD; omega)) hM_17 rfl dX5_set_64 rfl ?_
      have hs_21 := hs_9.putSet (c' := up c k v) (hM_13.trans (by rw [hg_16])) fr_14 (fun j hj => up_ne _ _ (by omega))
      refine g_callVN X (ct_X3_beginAnew l (Sg 0) (up c k v)) (host := "StrideBanks") (As := []) (rest := []) cl_X3 rfl ca_X3_beginAnew rfl wm_X5_59 wi_X3_beginAnew ws_X3_beginAnew wc_X3_beginAnew w0_X3 ⟨by decide, by decide⟩ (hs_9.mem (i := 0) (by decide) (by decide)) hM_18 (by decide) ⟨by decide, by decide⟩ rfl dX5_set_67 rfl ⟨rfl, hs_21, by rw [up_ne _ _ (by omega)]; omega⟩ (fun r1 L1 M_22 hq => ?_)
      obtain ⟨rfl, rfl, hs_23, fr_24⟩ := hq
      have hM_25 : M_22 (Sg 10 0) = .inr (5, [.ref (Sg 0 0), .ref (Sg 1 0), .ref (Sg 10 1), .ref (Sg 10 3), .ref (Sg 10 4), .ref (Sg 10 5)]) := (fr_24 _ (fun j j0 j1 => hA.ne (by unfold inD; omega) (by unfold inD; omega) (by omega))).trans hM_17
      refine g_st (st' := []) rfl ?_
      refine g_iload_n X 0 rfl dX5_set_70 rfl ?_
      have hset : isSet k v := set_rng.mpr ⟨by omega, by omega⟩
      have hfK : ∀ s k, inD s k → ¬ (4 ≤ s ∧ s < 10) ∧ ¬ (s = 10 ∧ 1 ≤ k ∧ k ≤ 2) ∧ ¬ s = 0 → M_22 (Sg s k) = M (Sg s k) := fun s k hi hcn => ((fr_24 (Sg s k) (fun j j0 j1 => hA.ne hi (by unfold inD; omega) (by omega))).trans ((fr_14 (Sg s k) (hA.ne hi (by unfold inD; omega) (by omega))).trans (fr_10 (Sg s k) (fun k2 a2 b2 => hA.ne hi (by unfold inD; omega) (by omega)) (fun s2 k2 a2 b2 d2 e2 => hA.ne hi (by unfold inD; omega) (by omega)))))
      have hoA : outA Sg M M_22 := fun x hx => ((fr_24 x (fun j j0 j1 => hx 0 j (by unfold inD; omega))).trans ((fr_14 x (hx 0 1 (by unfold inD; omega))).trans (fr_10 x (fun k2 a2 b2 => hx 10 k2 (by unfold inD; omega)) (fun s2 k2 a2 b2 d2 e2 => hx s2 k2 (by unfold inD; omega)))))
      have hHK : ∀ s k, inD s k → ¬ s = 0 → M_22 (Sg s k) = M_7 (Sg s k) := fun s k hi hcn => ((fr_24 (Sg s k) (fun j j0 j1 => hA.ne hi (by unfold inD; omega) (by omega))).trans (fr_14 (Sg s k) (hA.ne hi (by unfold inD; omega) (by omega))))
      exact g_iret X hret ⟨Nat.le_of_ble_eq_true rfl, Nat.le_of_ble_eq_true rfl⟩ dX5_set_71 ⟨by rw [anSet, if_pos hset]; exact congrArg _ (congrArg _ (congrArg iI (hR.1.at (by omega) (by omega)))), rfl, by rw [opSet, if_pos hset]; exact (SBo.same ⟨hA, (hFX.kept (hfK 10 0 (by unfold inD; omega) (by first | trivial | omega)) (hfK 10 3 (by unfold inD; omega) (by first | trivial | omega)) (hfK 10 4 (by unfold inD; omega) (by first | trivial | omega))), (hPD.kept (hfK 10 5 (by unfold inD; omega) (by first | trivial | omega)) (hfK 10 6 (by unfold inD; omega) (by first | trivial | omega)) (hfK 10 7 (by unfold inD; omega) (by first | trivial | omega))), (hH_8.kept (hHK 10 1 (by unfold inD; omega) (by omega)) (hHK 10 2 (by unfold inD; omega) (by omega)) (fun s k s0 s1 k0 k1 => (hHK s k (by unfold inD; omega) (by omega)))), ⟨_, hs_23, rel_bga (rel_set hR (by omega) (by omega)) (by rw [up_ne _ _ (by omega)]; omega) (set_inv hI hset).2⟩, (TR.kept ⟨ct, ht⟩ (fun k k0 k1 => (hfK 1 k (by unfold inD; omega) (by first | trivial | omega)))), (hSL.kept (fun s k s0 s1 k0 k1 => (hfK s k (by unfold inD; omega) (by first | trivial | omega))))⟩ hoA)⟩
    · refine g_bipush X (z := -2) (by decide +kernel) dX5_set_29 rfl ?_
      have hfK : ∀ s k, inD s k → True → M (Sg s k) = M (Sg s k) := fun s k hi hcn => rfl
      have hoA : outA Sg M M := fun x hx => rfl
      exact g_iret X hret ⟨Nat.le_of_ble_eq_true rfl, Nat.le_of_ble_eq_true rfl⟩ dX5_set_31 ⟨by rw [anSet, if_neg (fun q => by have q2 := set_rng.mp q; omega)], rfl, by rw [opSet, if_neg (fun q => by have q2 := set_rng.mp q; omega)]; exact (SBo.same ⟨hA, (hFX.kept (hfK 10 0 (by unfold inD; omega) (by first | trivial | omega)) (hfK 10 3 (by unfold inD; omega) (by first | trivial | omega)) (hfK 10 4 (by unfold inD; omega) (by first | trivial | omega))), (hPD.kept (hfK 10 5 (by unfold inD; omega) (by first | trivial | omega)) (hfK 10 6 (by unfold inD; omega) (by first | trivial | omega)) (hfK 10 7 (by unfold inD; omega) (by first | trivial | omega))), hH, ⟨c, hs, hR⟩, (TR.kept ⟨ct, ht⟩ (fun k k0 k1 => (hfK 1 k (by unfold inD; omega) (by first | trivial | omega)))), (hSL.kept (fun s k s0 s1 k0 k1 => (hfK s k (by unfold inD; omega) (by first | trivial | omega))))⟩ hoA)⟩
  · refine g_bipush X (z := -2) (by decide +kernel) dX5_set_9 rfl ?_
    have hfK : ∀ s k, inD s k → True → M (Sg s k) = M (Sg s k) := fun s k hi hcn => rfl
    have hoA : outA Sg M M := fun x hx => rfl
    exact g_iret X hret ⟨Nat.le_of_ble_eq_true rfl, Nat.le_of_ble_eq_true rfl⟩ dX5_set_11 ⟨by rw [anSet, if_neg (fun q => by have q2 := set_rng.mp q; omega)], rfl, by rw [opSet, if_neg (fun q => by have q2 := set_rng.mp q; omega)]; exact (SBo.same ⟨hA, (hFX.kept (hfK 10 0 (by unfold inD; omega) (by first | trivial | omega)) (hfK 10 3 (by unfold inD; omega) (by first | trivial | omega)) (hfK 10 4 (by unfold inD; omega) (by first | trivial | omega))), (hPD.kept (hfK 10 5 (by unfold inD; omega) (by first | trivial | omega)) (hfK 10 6 (by unfold inD; omega) (by first | trivial | omega)) (hfK 10 7 (by unfold inD; omega) (by first | trivial | omega))), hH, ⟨c, hs, hR⟩, (TR.kept ⟨ct, ht⟩ (fun k k0 k1 => (hfK 1 k (by unfold inD; omega) (by first | trivial | omega)))), (hSL.kept (fun s k s0 s1 k0 k1 => (hfK s k (by unfold inD; omega) (by first | trivial | omega))))⟩ hoA)⟩
