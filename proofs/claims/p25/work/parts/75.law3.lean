/-! ===== the law's areSums ===== -/
set_option maxRecDepth 100000 in
set_option maxHeartbeats 4000000 in
theorem ct_L_areSums (l : Launch) (o : Nat) (S : AS) (T : Int) : Ct l yL_areSums cL_areSums 12 (some .boolean) 6 0 0 (fun ca av L M => av = [.ref o] ∧ OB ca L M o S ∧ PA T S) (fun ca av L M r L1 M1 => r = some (.int (iI 1)) ∧ L = L1 ∧ OB ca L1 M1 o S) := by
  refine Ct_of (own := RL) (by decide) rfl (by rintro _ _ _ _ ⟨rfl, _⟩; exact Nat.le_of_ble_eq_true rfl) ?_
  rintro p e s m args below meth c D ca A av L M ⟨rfl, hO, hPA⟩ X hret hname
  refine g_lv (lv' := [(0, .ref o)]) [0] rfl ?_
  generalize hQ : MQ below _ args s _ _ A = Q
  have hW := hPA.1
  have hI := hPA.I
  obtain ⟨⟨s00, s01⟩, ⟨s10, s11⟩, ⟨s20, s21⟩, ⟨s30, s31⟩, ⟨s40, s41⟩, s50, s51⟩ := id hPA.S
  have hpr := tGP_rng s00 s01
  obtain ⟨we, q7, q8⟩ := sums_end hPA
  have n0 : (((S.1 0).toNat : Nat) : Int) = S.1 0 := by omega
  have n5 : (((S.1 5).toNat : Nat) : Int) = S.1 5 := by omega
  have o5 := ofS_rng hI hPA.P (S.1 5).toNat (by omega)
  have r0 := rqS_rng hI hPA.P (S.1 0).toNat (by omega)
  have l0 := wlG_nn hI
  have b0 := bb_rng (g := S.1) (S.1 0).toNat
  have lp2 : ∀ (n k : Nat) (y a5 a6 a7 a8 : Int) (M2 : Mem) (hy : y = k) (hk : k + n = (S.1 0).toNat) (h5 : a5 = wbS S.1 k) (h6 : a6 = bbS S.1 k) (h7 : a7 = rqS S.1 k) (h8 : a8 = mdS S.1 k) (hO : OB ca L M2 o S), G p l e (Rm 6 0 0) s m args below meth c D A 12 Q 0 0 L M2 322 [(0, .ref o), (1, .int (iI (wlG S.1))), (2, .int (iI (ofG S.1 7))), (3, .int (iI (ofG S.1 8))), (4, .int (iI (ofG S.1 9))), (5, .int (iI a5)), (6, .int (iI a6)), (7, .int (iI a7)), (8, .int (iI a8)), (9, .int (iI 1)), (10, .int (iI y))] [] := by
    intro n
    induction n with
    | zero =>
      intro y0 y a5 a6 a7 a8 M2 hy hk h5 h6 h7 h8 hO
      have ek : y0 = (S.1 0).toNat := by omega
      subst ek
      have e5 : a5 = wlG S.1 := h5.trans we
      have e6 : a6 = bbG S.1 := h6
      unfold ofG at q7 q8
      refine g_iload X 10 rfl dL_areSums_322 rfl ?_
      refine g_aload_n X 0 rfl dL_areSums_324 rfl ?_
      refine g_iconst X (z := 0) dL_areSums_325 rfl ?_
      refine k_call X (v := S.1 0) (fun Sg => kt_count l Sg S 0) (As := [.int (iI 0)]) (rest := [.int (iI y)]) rfl ca_X5_count rfl wm_L_9 wi_X5_count ws_X5_count wc_X5_count ⟨by decide, by decide⟩ (Nat.le_of_ble_eq_true rfl) ⟨by decide, by decide⟩ rfl dL_areSums_326 rfl hO ⟨hW, ⟨by decide, by decide⟩⟩ (c_low S (by decide)) (fun M_2 hO_1 => ?_)
      refine g_icmp_ge X ⟨by omega, by omega⟩ ⟨by omega, by omega⟩ (tgt := 461) dL_areSums_329 (by decide) rfl (fun h_3 => ?_) (fun h_3 => ?_)
      · refine g_iload X 9 rfl dL_areSums_461 rfl ?_
        refine g_if_eq X ⟨by decide, by decide⟩ (tgt := 540) dL_areSums_463 (by decide) rfl (fun h => absurd h (by decide)) (fun _ => ?_)
        refine g_iload_n X 1 rfl dL_areSums_466 rfl ?_
        refine g_aload_n X 0 rfl dL_areSums_467 rfl ?_
        refine g_bipush X (z := 6) (by decide +kernel) dL_areSums_468 rfl ?_
        refine k_call X (v := wlG S.1) (fun Sg => kt_count l Sg S 6) (As := [.int (iI 6)]) (rest := [.int (iI (wlG S.1))]) rfl ca_X5_count rfl wm_L_9 wi_X5_count ws_X5_count wc_X5_count ⟨by decide, by decide⟩ (Nat.le_of_ble_eq_true rfl) ⟨by decide, by decide⟩ rfl dL_areSums_470 rfl hO_1 ⟨hW, ⟨by decide, by decide⟩⟩ (c_6 S) (fun M_6 hO_5 => ?_)
        refine g_icmp_ne X ⟨by omega, by omega⟩ ⟨by omega, by omega⟩ (tgt := 540) dL_areSums_473 (by decide) rfl (fun h_7 => ?_) (fun h_7 => ?_)
        · exfalso
          omega
        · refine g_iload_n X 2 rfl dL_areSums_476 rfl ?_
          refine g_aload_n X 0 rfl dL_areSums_477 rfl ?_
          refine g_bipush X (z := 7) (by decide +kernel) dL_areSums_478 rfl ?_
          refine k_call X (v := ofG S.1 7) (fun Sg => kt_count l Sg S 7) (As := [.int (iI 7)]) (rest := [.int (iI (ofG S.1 7))]) rfl ca_X5_count rfl wm_L_9 wi_X5_count ws_X5_count wc_X5_count ⟨by decide, by decide⟩ (Nat.le_of_ble_eq_true rfl) ⟨by decide, by decide⟩ rfl dL_areSums_480 rfl hO_5 ⟨hW, ⟨by decide, by decide⟩⟩ (c_79 S (by decide)) (fun M_9 hO_8 => ?_)
          refine g_icmp_ne X ⟨by unfold ofG; omega, by unfold ofG; omega⟩ ⟨by unfold ofG; omega, by unfold ofG; omega⟩ (tgt := 540) dL_areSums_483 (by decide) rfl (fun h_10 => ?_) (fun h_10 => ?_)
          · exfalso
            omega
          · refine g_iload_n X 3 rfl dL_areSums_486 rfl ?_
            refine g_aload_n X 0 rfl dL_areSums_487 rfl ?_
            refine g_bipush X (z := 8) (by decide +kernel) dL_areSums_488 rfl ?_
            refine k_call X (v := ofG S.1 8) (fun Sg => kt_count l Sg S 8) (As := [.int (iI 8)]) (rest := [.int (iI (ofG S.1 8))]) rfl ca_X5_count rfl wm_L_9 wi_X5_count ws_X5_count wc_X5_count ⟨by decide, by decide⟩ (Nat.le_of_ble_eq_true rfl) ⟨by decide, by decide⟩ rfl dL_areSums_490 rfl hO_8 ⟨hW, ⟨by decide, by decide⟩⟩ (c_79 S (by decide)) (fun M_12 hO_11 => ?_)
            refine g_icmp_ne X ⟨by unfold ofG; omega, by unfold ofG; omega⟩ ⟨by unfold ofG; omega, by unfold ofG; omega⟩ (tgt := 540) dL_areSums_493 (by decide) rfl (fun h_13 => ?_) (fun h_13 => ?_)
            · exfalso
              omega
            · refine g_iload X 4 rfl dL_areSums_496 rfl ?_
              refine g_aload_n X 0 rfl dL_areSums_498 rfl ?_
              refine g_bipush X (z := 9) (by decide +kernel) dL_areSums_499 rfl ?_
              refine k_call X (v := ofG S.1 9) (fun Sg => kt_count l Sg S 9) (As := [.int (iI 9)]) (rest := [.int (iI (ofG S.1 9))]) rfl ca_X5_count rfl wm_L_9 wi_X5_count ws_X5_count wc_X5_count ⟨by decide, by decide⟩ (Nat.le_of_ble_eq_true rfl) ⟨by decide, by decide⟩ rfl dL_areSums_501 rfl hO_11 ⟨hW, ⟨by decide, by decide⟩⟩ (c_79 S (by decide)) (fun M_15 hO_14 => ?_)
              refine g_icmp_ne X ⟨by unfold ofG; omega, by unfold ofG; omega⟩ ⟨by unfold ofG; omega, by unfold ofG; omega⟩ (tgt := 540) dL_areSums_504 (by decide) rfl (fun h_16 => ?_) (fun h_16 => ?_)
              · exfalso
                omega
              · refine g_iload X 5 rfl dL_areSums_507 rfl ?_
                refine g_iload_n X 1 rfl dL_areSums_509 rfl ?_
                refine g_icmp_ne X ⟨by omega, by omega⟩ ⟨by omega, by omega⟩ (tgt := 540) dL_areSums_510 (by decide) rfl (fun h_17 => ?_) (fun h_17 => ?_)
                · exfalso
                  omega
                · refine g_iload X 6 rfl dL_areSums_513 rfl ?_
                  refine g_aload_n X 0 rfl dL_areSums_515 rfl ?_
                  refine g_bipush X (z := 10) (by decide +kernel) dL_areSums_516 rfl ?_
                  refine k_call X (v := bbG S.1) (fun Sg => kt_count l Sg S 10) (As := [.int (iI 10)]) (rest := [.int (iI a6)]) rfl ca_X5_count rfl wm_L_9 wi_X5_count ws_X5_count wc_X5_count ⟨by decide, by decide⟩ (Nat.le_of_ble_eq_true rfl) ⟨by decide, by decide⟩ rfl dL_areSums_518 rfl hO_14 ⟨hW, ⟨by decide, by decide⟩⟩ (c_10 S) (fun M_19 hO_18 => ?_)
                  refine g_icmp_ne X ⟨by rw [h6]; omega, by rw [h6]; omega⟩ ⟨by unfold bbG; omega, by unfold bbG; omega⟩ (tgt := 540) dL_areSums_521 (by decide) rfl (fun h_20 => ?_) (fun h_20 => ?_)
                  · exfalso
                    omega
                  · refine g_iload X 7 rfl dL_areSums_524 rfl ?_
                    refine g_iload_n X 2 rfl dL_areSums_526 rfl ?_
                    refine g_icmp_lt X ⟨by omega, by omega⟩ ⟨by unfold ofG; omega, by unfold ofG; omega⟩ (tgt := 540) dL_areSums_527 (by decide) rfl (fun h_21 => ?_) (fun h_21 => ?_)
                    · exfalso
                      unfold ofG at h_21
                      omega
                    · refine g_iload X 8 rfl dL_areSums_530 rfl ?_
                      refine g_iload_n X 3 rfl dL_areSums_532 rfl ?_
                      refine g_icmp_lt X ⟨by omega, by omega⟩ ⟨by unfold ofG; omega, by unfold ofG; omega⟩ (tgt := 540) dL_areSums_533 (by decide) rfl (fun h_22 => ?_) (fun h_22 => ?_)
                      · exfalso
                        unfold ofG at h_22
                        omega
                      · refine g_iconst X (z := 1) dL_areSums_536 rfl ?_
                        refine g_goto X (n := 541) dL_areSums_537 (by decide) ?_
                        subst hQ
                        exact g_zret X hret (by rfl) ⟨Nat.le_of_ble_eq_true rfl, Nat.le_of_ble_eq_true rfl⟩ dL_areSums_541 ⟨rfl, rfl, hO_18⟩
      · exfalso
        omega
    | succ n ih =>
      intro k y a5 a6 a7 a8 M2 hy hk h5 h6 h7 h8 hO
      have hb : 0 ≤ y ∧ y < S.1 0 := by omega
      obtain ⟨⟨t0, t00⟩, ⟨t1, t11⟩, ⟨t2, t22⟩, ⟨t3, t33⟩, t4⟩ := sums_bank hPA hb.1 hb.2
      have x5 := wbS_rng hI k
      have x6 := bb_rng (g := S.1) k
      have x7 := rqS_rng hI hPA.P k (by omega)
      refine g_iload X 10 rfl dL_areSums_322 rfl ?_
      refine g_aload_n X 0 rfl dL_areSums_324 rfl ?_
      refine g_iconst X (z := 0) dL_areSums_325 rfl ?_
      refine k_call X (v := S.1 0) (fun Sg => kt_count l Sg S 0) (As := [.int (iI 0)]) (rest := [.int (iI y)]) rfl ca_X5_count rfl wm_L_9 wi_X5_count ws_X5_count wc_X5_count ⟨by decide, by decide⟩ (Nat.le_of_ble_eq_true rfl) ⟨by decide, by decide⟩ rfl dL_areSums_326 rfl hO ⟨hW, ⟨by decide, by decide⟩⟩ (c_low S (by decide)) (fun M_24 hO_23 => ?_)
      refine g_icmp_ge X ⟨by omega, by omega⟩ ⟨by omega, by omega⟩ (tgt := 461) dL_areSums_329 (by decide) rfl (fun h_25 => ?_) (fun h_25 => ?_)
      · exfalso
        omega
      · refine g_iload X 9 rfl dL_areSums_332 rfl ?_
        refine g_if_eq X ⟨by decide, by decide⟩ (tgt := 461) dL_areSums_334 (by decide) rfl (fun h => absurd h (by decide)) (fun _ => ?_)
        refine g_iload X 5 rfl dL_areSums_337 rfl ?_
        refine g_aload_n X 0 rfl dL_areSums_339 rfl ?_
        refine g_iload X 10 rfl dL_areSums_340 rfl ?_
        refine g_iconst X (z := 3) dL_areSums_342 rfl ?_
        refine k_call X (v := anBank S y 3) (fun Sg => kt_bank l Sg S y 3) (As := [.int (iI y), .int (iI 3)]) (rest := [.int (iI a5)]) rfl ca_X5_bank rfl wm_L_19 wi_X5_bank ws_X5_bank wc_X5_bank ⟨by decide, by decide⟩ (Nat.le_of_ble_eq_true rfl) ⟨by decide, by decide⟩ rfl dL_areSums_343 rfl hO_23 ⟨hW, ⟨by omega, by omega⟩, ⟨by decide, by decide⟩⟩ rfl (fun M_28 hO_27 => ?_)
        refine g_iadd X dL_areSums_346 rfl ?_
        refine g_istore X (lv' := [(5, .int (iI (a5 + anBank S y 3))), (0, .ref o), (1, .int (iI (wlG S.1))), (2, .int (iI (ofG S.1 7))), (3, .int (iI (ofG S.1 8))), (4, .int (iI (ofG S.1 9))), (6, .int (iI a6)), (7, .int (iI a7)), (8, .int (iI a8)), (9, .int (iI 1)), (10, .int (iI y))]) (by decide) rfl dL_areSums_347 rfl ?_
        refine g_iload X 6 rfl dL_areSums_349 rfl ?_
        refine g_aload_n X 1 rfl dL_areSums_351 rfl ?_
        refine g_iload X 10 rfl dL_areSums_352 rfl ?_
        refine g_iconst X (z := 0) dL_areSums_354 rfl ?_
        refine k_call X (v := anBank S y 0) (fun Sg => kt_bank l Sg S y 0) (As := [.int (iI y), .int (iI 0)]) (rest := [.int (iI a6)]) rfl ca_X5_bank rfl wm_L_19 wi_X5_bank ws_X5_bank wc_X5_bank ⟨by decide, by decide⟩ (Nat.le_of_ble_eq_true rfl) ⟨by decide, by decide⟩ rfl dL_areSums_355 rfl hO_27 ⟨hW, ⟨by omega, by omega⟩, ⟨by decide, by decide⟩⟩ rfl (fun M_30 hO_29 => ?_)
        refine g_dia X (n := 361) (tgt := 365) (J := 366) (C0 := anBank S y 0 ≤ 0) (fun kt kf => g_if_le X ⟨by omega, by omega⟩ (tgt := 365) dL_areSums_358 (by decide) rfl kt kf) dL_areSums_361 dL_areSums_362 (by decide) dL_areSums_365 rfl ?_
        refine g_iadd X dL_areSums_366 rfl ?_
        refine g_istore X (lv' := [(6, .int (iI (a6 + (if anBank S y 0 ≤ 0 then 0 else 1)))), (5, .int (iI (a5 + anBank S y 3))), (0, .ref o), (1, .int (iI (wlG S.1))), (2, .int (iI (ofG S.1 7))), (3, .int (iI (ofG S.1 8))), (4, .int (iI (ofG S.1 9))), (7, .int (iI a7)), (8, .int (iI a8)), (9, .int (iI 1)), (10, .int (iI y))]) (by decide) rfl dL_areSums_367 rfl ?_
        refine g_iload X 7 rfl dL_areSums_369 rfl ?_
        refine g_aload_n X 2 rfl dL_areSums_371 rfl ?_
        refine g_iload X 10 rfl dL_areSums_372 rfl ?_
        refine g_iconst X (z := 1) dL_areSums_374 rfl ?_
        refine k_call X (v := anBank S y 1) (fun Sg => kt_bank l Sg S y 1) (As := [.int (iI y), .int (iI 1)]) (rest := [.int (iI a7)]) rfl ca_X5_bank rfl wm_L_19 wi_X5_bank ws_X5_bank wc_X5_bank ⟨by decide, by decide⟩ (Nat.le_of_ble_eq_true rfl) ⟨by decide, by decide⟩ rfl dL_areSums_375 rfl hO_29 ⟨hW, ⟨by omega, by omega⟩, ⟨by decide, by decide⟩⟩ rfl (fun M_33 hO_32 => ?_)
        refine g_iadd X dL_areSums_378 rfl ?_
        refine g_istore X (lv' := [(7, .int (iI (a7 + anBank S y 1))), (6, .int (iI (a6 + (if anBank S y 0 ≤ 0 then 0 else 1)))), (5, .int (iI (a5 + anBank S y 3))), (0, .ref o), (1, .int (iI (wlG S.1))), (2, .int (iI (ofG S.1 7))), (3, .int (iI (ofG S.1 8))), (4, .int (iI (ofG S.1 9))), (8, .int (iI a8)), (9, .int (iI 1)), (10, .int (iI y))]) (by decide) rfl dL_areSums_379 rfl ?_
        refine g_iload X 8 rfl dL_areSums_381 rfl ?_
        refine g_aload_n X 3 rfl dL_areSums_383 rfl ?_
        refine g_iload X 10 rfl dL_areSums_384 rfl ?_
        refine g_iconst X (z := 2) dL_areSums_386 rfl ?_
        refine k_call X (v := anBank S y 2) (fun Sg => kt_bank l Sg S y 2) (As := [.int (iI y), .int (iI 2)]) (rest := [.int (iI a8)]) rfl ca_X5_bank rfl wm_L_19 wi_X5_bank ws_X5_bank wc_X5_bank ⟨by decide, by decide⟩ (Nat.le_of_ble_eq_true rfl) ⟨by decide, by decide⟩ rfl dL_areSums_387 rfl hO_32 ⟨hW, ⟨by omega, by omega⟩, ⟨by decide, by decide⟩⟩ rfl (fun M_35 hO_34 => ?_)
        refine g_iadd X dL_areSums_390 rfl ?_
        refine g_istore X (lv' := [(8, .int (iI (a8 + anBank S y 2))), (7, .int (iI (a7 + anBank S y 1))), (6, .int (iI (a6 + (if anBank S y 0 ≤ 0 then 0 else 1)))), (5, .int (iI (a5 + anBank S y 3))), (0, .ref o), (1, .int (iI (wlG S.1))), (2, .int (iI (ofG S.1 7))), (3, .int (iI (ofG S.1 8))), (4, .int (iI (ofG S.1 9))), (9, .int (iI 1)), (10, .int (iI y))]) (by decide) rfl dL_areSums_391 rfl ?_
        refine g_aload_n X 4 rfl dL_areSums_393 rfl ?_
        refine g_iload X 10 rfl dL_areSums_394 rfl ?_
        refine g_iconst X (z := 0) dL_areSums_396 rfl ?_
        refine k_call X (v := anBank S y 0) (fun Sg => kt_bank l Sg S y 0) (As := [.int (iI y), .int (iI 0)]) (rest := []) rfl ca_X5_bank rfl wm_L_19 wi_X5_bank ws_X5_bank wc_X5_bank ⟨by decide, by decide⟩ (by decide) ⟨by decide, by decide⟩ rfl dL_areSums_397 rfl hO_34 ⟨hW, ⟨by omega, by omega⟩, ⟨by decide, by decide⟩⟩ rfl (fun M_37 hO_36 => ?_)
        refine g_aload_n X 4 rfl dL_areSums_400 rfl ?_
        refine g_iconst X (z := 1) dL_areSums_401 rfl ?_
        refine k_call X (v := S.1 1) (fun Sg => kt_count l Sg S 1) (As := [.int (iI 1)]) (rest := [.int (iI (anBank S y 0))]) rfl ca_X5_count rfl wm_L_9 wi_X5_count ws_X5_count wc_X5_count ⟨by decide, by decide⟩ (Nat.le_of_ble_eq_true rfl) ⟨by decide, by decide⟩ rfl dL_areSums_402 rfl hO_36 ⟨hW, ⟨by decide, by decide⟩⟩ (c_low S (by decide)) (fun M_39 hO_38 => ?_)
        refine g_icmp_ge X ⟨by omega, by omega⟩ ⟨by omega, by omega⟩ (tgt := 452) dL_areSums_405 (by decide) rfl (fun h_40 => ?_) (fun h_40 => ?_)
        · exfalso
          omega
        · refine g_aload_n X 4 rfl dL_areSums_408 rfl ?_
          refine g_iconst X (z := 2) dL_areSums_409 rfl ?_
          refine k_call X (v := S.1 2) (fun Sg => kt_count l Sg S 2) (As := [.int (iI 2)]) (rest := []) rfl ca_X5_count rfl wm_L_9 wi_X5_count ws_X5_count wc_X5_count ⟨by decide, by decide⟩ (by decide) ⟨by decide, by decide⟩ rfl dL_areSums_410 rfl hO_38 ⟨hW, ⟨by decide, by decide⟩⟩ (c_low S (by decide)) (fun M_42 hO_41 => ?_)
          refine g_iconst X (z := 2) dL_areSums_413 rfl ?_
          refine g_icmp_lt X ⟨by omega, by omega⟩ ⟨by decide, by decide⟩ (tgt := 448) dL_areSums_414 (by decide) rfl (fun h_43 => ?_) (fun h_43 => ?_)
          · refine g_iconst X (z := 1) dL_areSums_448 rfl ?_
            refine g_goto X (n := 453) dL_areSums_449 (by decide) ?_
            refine g_istore X (lv' := [(9, .int (iI 1)), (8, .int (iI (a8 + anBank S y 2))), (7, .int (iI (a7 + anBank S y 1))), (6, .int (iI (a6 + (if anBank S y 0 ≤ 0 then 0 else 1)))), (5, .int (iI (a5 + anBank S y 3))), (0, .ref o), (1, .int (iI (wlG S.1))), (2, .int (iI (ofG S.1 7))), (3, .int (iI (ofG S.1 8))), (4, .int (iI (ofG S.1 9))), (10, .int (iI y))]) (by decide) rfl dL_areSums_453 rfl ?_
            refine g_iinc X (lv' := [(10, .int (iI (y + 1))), (9, .int (iI 1)), (8, .int (iI (a8 + anBank S y 2))), (7, .int (iI (a7 + anBank S y 1))), (6, .int (iI (a6 + (if anBank S y 0 ≤ 0 then 0 else 1)))), (5, .int (iI (a5 + anBank S y 3))), (0, .ref o), (1, .int (iI (wlG S.1))), (2, .int (iI (ofG S.1 7))), (3, .int (iI (ofG S.1 8))), (4, .int (iI (ofG S.1 9)))]) 10 rfl (by decide) rfl dL_areSums_455 rfl ?_
            refine g_goto X (n := 322) dL_areSums_458 (by decide) ?_
            refine g_lv (lv' := [(0, .ref o), (1, .int (iI (wlG S.1))), (2, .int (iI (ofG S.1 7))), (3, .int (iI (ofG S.1 8))), (4, .int (iI (ofG S.1 9))), (5, .int (iI (a5 + anBank S y 3))), (6, .int (iI (a6 + (if anBank S y 0 ≤ 0 then 0 else 1)))), (7, .int (iI (a7 + anBank S y 1))), (8, .int (iI (a8 + anBank S y 2))), (9, .int (iI 1)), (10, .int (iI (y + 1)))]) [6, 7, 8, 9, 10, 5, 4, 3, 2, 1, 0] rfl ?_
            exact ih (k + 1) _ _ _ _ _ _ (by omega) (by omega) (by rw [h5, b_3 S hb, hy]; rfl) (by rw [h6, b_0 S hb, hy]; simp only [bbS]; split <;> split <;> omega) (by rw [h7, b_1 S hb, hy]; rfl) (by rw [h8, b_2 S hb, hy]; rfl) hO_41
          · refine g_iload X 10 rfl dL_areSums_417 rfl ?_
            refine g_aload_n X 4 rfl dL_areSums_419 rfl ?_
            refine g_bipush X (z := 11) (by decide +kernel) dL_areSums_420 rfl ?_
            refine k_call X (v := tGP (S.1 0)) (fun Sg => kt_count l Sg S 11) (As := [.int (iI 11)]) (rest := [.int (iI y)]) rfl ca_X5_count rfl wm_L_9 wi_X5_count ws_X5_count wc_X5_count ⟨by decide, by decide⟩ (Nat.le_of_ble_eq_true rfl) ⟨by decide, by decide⟩ rfl dL_areSums_422 rfl hO_41 ⟨hW, ⟨by decide, by decide⟩⟩ (c_11 S) (fun M_45 hO_44 => ?_)
            refine g_icmp_lt X ⟨by omega, by omega⟩ ⟨by omega, by omega⟩ (tgt := 448) dL_areSums_425 (by decide) rfl (fun h_46 => ?_) (fun h_46 => ?_)
            · refine g_iconst X (z := 1) dL_areSums_448 rfl ?_
              refine g_goto X (n := 453) dL_areSums_449 (by decide) ?_
              refine g_istore X (lv' := [(9, .int (iI 1)), (8, .int (iI (a8 + anBank S y 2))), (7, .int (iI (a7 + anBank S y 1))), (6, .int (iI (a6 + (if anBank S y 0 ≤ 0 then 0 else 1)))), (5, .int (iI (a5 + anBank S y 3))), (0, .ref o), (1, .int (iI (wlG S.1))), (2, .int (iI (ofG S.1 7))), (3, .int (iI (ofG S.1 8))), (4, .int (iI (ofG S.1 9))), (10, .int (iI y))]) (by decide) rfl dL_areSums_453 rfl ?_
              refine g_iinc X (lv' := [(10, .int (iI (y + 1))), (9, .int (iI 1)), (8, .int (iI (a8 + anBank S y 2))), (7, .int (iI (a7 + anBank S y 1))), (6, .int (iI (a6 + (if anBank S y 0 ≤ 0 then 0 else 1)))), (5, .int (iI (a5 + anBank S y 3))), (0, .ref o), (1, .int (iI (wlG S.1))), (2, .int (iI (ofG S.1 7))), (3, .int (iI (ofG S.1 8))), (4, .int (iI (ofG S.1 9)))]) 10 rfl (by decide) rfl dL_areSums_455 rfl ?_
              refine g_goto X (n := 322) dL_areSums_458 (by decide) ?_
              refine g_lv (lv' := [(0, .ref o), (1, .int (iI (wlG S.1))), (2, .int (iI (ofG S.1 7))), (3, .int (iI (ofG S.1 8))), (4, .int (iI (ofG S.1 9))), (5, .int (iI (a5 + anBank S y 3))), (6, .int (iI (a6 + (if anBank S y 0 ≤ 0 then 0 else 1)))), (7, .int (iI (a7 + anBank S y 1))), (8, .int (iI (a8 + anBank S y 2))), (9, .int (iI 1)), (10, .int (iI (y + 1)))]) [6, 7, 8, 9, 10, 5, 4, 3, 2, 1, 0] rfl ?_
              exact ih (k + 1) _ _ _ _ _ _ (by omega) (by omega) (by rw [h5, b_3 S hb, hy]; rfl) (by rw [h6, b_0 S hb, hy]; simp only [bbS]; split <;> split <;> omega) (by rw [h7, b_1 S hb, hy]; rfl) (by rw [h8, b_2 S hb, hy]; rfl) hO_44
            · refine g_aload_n X 4 rfl dL_areSums_428 rfl ?_
              refine g_iload X 10 rfl dL_areSums_429 rfl ?_
              refine g_iconst X (z := 1) dL_areSums_431 rfl ?_
              refine k_call X (v := anBank S y 1) (fun Sg => kt_bank l Sg S y 1) (As := [.int (iI y), .int (iI 1)]) (rest := []) rfl ca_X5_bank rfl wm_L_19 wi_X5_bank ws_X5_bank wc_X5_bank ⟨by decide, by decide⟩ (by decide) ⟨by decide, by decide⟩ rfl dL_areSums_432 rfl hO_44 ⟨hW, ⟨by omega, by omega⟩, ⟨by decide, by decide⟩⟩ rfl (fun M_48 hO_47 => ?_)
              refine g_if_ne X ⟨by omega, by omega⟩ (tgt := 452) dL_areSums_435 (by decide) rfl (fun h_49 => ?_) (fun h_49 => ?_)
              · exfalso
                have := t4 (by omega) (by omega)
                omega
              · refine g_aload_n X 4 rfl dL_areSums_438 rfl ?_
                refine g_iload X 10 rfl dL_areSums_439 rfl ?_
                refine g_iconst X (z := 3) dL_areSums_441 rfl ?_
                refine k_call X (v := anBank S y 3) (fun Sg => kt_bank l Sg S y 3) (As := [.int (iI y), .int (iI 3)]) (rest := []) rfl ca_X5_bank rfl wm_L_19 wi_X5_bank ws_X5_bank wc_X5_bank ⟨by decide, by decide⟩ (by decide) ⟨by decide, by decide⟩ rfl dL_areSums_442 rfl hO_47 ⟨hW, ⟨by omega, by omega⟩, ⟨by decide, by decide⟩⟩ rfl (fun M_51 hO_50 => ?_)
                refine g_if_ne X ⟨by omega, by omega⟩ (tgt := 452) dL_areSums_445 (by decide) rfl (fun h_52 => ?_) (fun h_52 => ?_)
                · exfalso
                  have := t4 (by omega) (by omega)
                  omega
                · refine g_iconst X (z := 1) dL_areSums_448 rfl ?_
                  refine g_goto X (n := 453) dL_areSums_449 (by decide) ?_
                  refine g_istore X (lv' := [(9, .int (iI 1)), (8, .int (iI (a8 + anBank S y 2))), (7, .int (iI (a7 + anBank S y 1))), (6, .int (iI (a6 + (if anBank S y 0 ≤ 0 then 0 else 1)))), (5, .int (iI (a5 + anBank S y 3))), (0, .ref o), (1, .int (iI (wlG S.1))), (2, .int (iI (ofG S.1 7))), (3, .int (iI (ofG S.1 8))), (4, .int (iI (ofG S.1 9))), (10, .int (iI y))]) (by decide) rfl dL_areSums_453 rfl ?_
                  refine g_iinc X (lv' := [(10, .int (iI (y + 1))), (9, .int (iI 1)), (8, .int (iI (a8 + anBank S y 2))), (7, .int (iI (a7 + anBank S y 1))), (6, .int (iI (a6 + (if anBank S y 0 ≤ 0 then 0 else 1)))), (5, .int (iI (a5 + anBank S y 3))), (0, .ref o), (1, .int (iI (wlG S.1))), (2, .int (iI (ofG S.1 7))), (3, .int (iI (ofG S.1 8))), (4, .int (iI (ofG S.1 9)))]) 10 rfl (by decide) rfl dL_areSums_455 rfl ?_
                  refine g_goto X (n := 322) dL_areSums_458 (by decide) ?_
                  refine g_lv (lv' := [(0, .ref o), (1, .int (iI (wlG S.1))), (2, .int (iI (ofG S.1 7))), (3, .int (iI (ofG S.1 8))), (4, .int (iI (ofG S.1 9))), (5, .int (iI (a5 + anBank S y 3))), (6, .int (iI (a6 + (if anBank S y 0 ≤ 0 then 0 else 1)))), (7, .int (iI (a7 + anBank S y 1))), (8, .int (iI (a8 + anBank S y 2))), (9, .int (iI 1)), (10, .int (iI (y + 1)))]) [6, 7, 8, 9, 10, 5, 4, 3, 2, 1, 0] rfl ?_
                  exact ih (k + 1) _ _ _ _ _ _ (by omega) (by omega) (by rw [h5, b_3 S hb, hy]; rfl) (by rw [h6, b_0 S hb, hy]; simp only [bbS]; split <;> split <;> omega) (by rw [h7, b_1 S hb, hy]; rfl) (by rw [h8, b_2 S hb, hy]; rfl) hO_50
  have lp1 : ∀ (n k : Nat) (y a1 a2 a3 a4 : Int) (M2 : Mem) (hy : y = k) (hk : k + n = (S.1 5).toNat) (h1 : a1 = wlS S.1 k) (h2 : a2 = ofS S.1 7 k) (h3 : a3 = ofS S.1 8 k) (h4 : a4 = ofS S.1 9 k) (hO : OB ca L M2 o S), G p l e (Rm 6 0 0) s m args below meth c D A 12 Q 0 0 L M2 59 [(0, .ref o), (1, .int (iI a1)), (2, .int (iI a2)), (3, .int (iI a3)), (4, .int (iI a4)), (5, .int (iI 0)), (6, .int (iI 0)), (7, .int (iI 0)), (8, .int (iI 0)), (9, .int (iI 1)), (10, .int (iI y))] [] := by
    intro n
    induction n with
    | zero =>
      intro k y a1 a2 a3 a4 M2 hy hk h1 h2 h3 h4 hO
      have ek : k = (S.1 5).toNat := by omega
      subst ek
      refine g_iload X 10 rfl dL_areSums_59 rfl ?_
      refine g_aload_n X 0 rfl dL_areSums_61 rfl ?_
      refine g_iconst X (z := 5) dL_areSums_62 rfl ?_
      refine k_call X (v := S.1 5) (fun Sg => kt_count l Sg S 5) (As := [.int (iI 5)]) (rest := [.int (iI y)]) rfl ca_X5_count rfl wm_L_9 wi_X5_count ws_X5_count wc_X5_count ⟨by decide, by decide⟩ (Nat.le_of_ble_eq_true rfl) ⟨by decide, by decide⟩ rfl dL_areSums_63 rfl hO ⟨hW, ⟨by decide, by decide⟩⟩ (c_low S (by decide)) (fun M_54 hO_53 => ?_)
      refine g_icmp_ge X ⟨by omega, by omega⟩ ⟨by omega, by omega⟩ (tgt := 319) dL_areSums_66 (by decide) rfl (fun h_55 => ?_) (fun h_55 => ?_)
      · refine g_iconst X (z := 0) dL_areSums_319 rfl ?_
        refine g_istore X (lv' := [(10, .int (iI 0)), (0, .ref o), (1, .int (iI a1)), (2, .int (iI a2)), (3, .int (iI a3)), (4, .int (iI a4)), (5, .int (iI 0)), (6, .int (iI 0)), (7, .int (iI 0)), (8, .int (iI 0)), (9, .int (iI 1))]) (by decide) rfl dL_areSums_320 rfl ?_
        refine g_lv (lv' := [(0, .ref o), (1, .int (iI a1)), (2, .int (iI a2)), (3, .int (iI a3)), (4, .int (iI a4)), (5, .int (iI 0)), (6, .int (iI 0)), (7, .int (iI 0)), (8, .int (iI 0)), (9, .int (iI 1)), (10, .int (iI 0))]) [1, 2, 3, 4, 5, 6, 7, 8, 9, 10, 0] rfl ?_
        subst h1 h2 h3 h4
        exact lp2 (S.1 0).toNat 0 _ _ _ _ _ _ rfl (by omega) rfl rfl rfl rfl hO_53
      · exfalso
        omega
    | succ n ih =>
      intro k y a1 a2 a3 a4 M2 hy hk h1 h2 h3 h4 hO
      have hi : 0 ≤ y ∧ y < S.1 5 := by omega
      obtain ⟨⟨t3, t32, t2⟩, t4, t4r, t7, ⟨t71, t72⟩, ⟨t6, t65⟩, ⟨t8, t81⟩, t5⟩ := sums_row hPA hi.1 hi.2
      have t4a := t4r.1
      have t4b := t4r.2
      have o1 := ofS_rng hI hPA.P k (by omega)
      refine g_iload X 10 rfl dL_areSums_59 rfl ?_
      refine g_aload_n X 0 rfl dL_areSums_61 rfl ?_
      refine g_iconst X (z := 5) dL_areSums_62 rfl ?_
      refine k_call X (v := S.1 5) (fun Sg => kt_count l Sg S 5) (As := [.int (iI 5)]) (rest := [.int (iI y)]) rfl ca_X5_count rfl wm_L_9 wi_X5_count ws_X5_count wc_X5_count ⟨by decide, by decide⟩ (Nat.le_of_ble_eq_true rfl) ⟨by decide, by decide⟩ rfl dL_areSums_63 rfl hO ⟨hW, ⟨by decide, by decide⟩⟩ (c_low S (by decide)) (fun M_57 hO_56 => ?_)
      refine g_icmp_ge X ⟨by omega, by omega⟩ ⟨by omega, by omega⟩ (tgt := 319) dL_areSums_66 (by decide) rfl (fun h_58 => ?_) (fun h_58 => ?_)
      · exfalso
        omega
      · refine g_iload X 9 rfl dL_areSums_69 rfl ?_
        refine g_if_eq X ⟨by decide, by decide⟩ (tgt := 319) dL_areSums_71 (by decide) rfl (fun h => absurd h (by decide)) (fun _ => ?_)
        refine g_aload_n X 0 rfl dL_areSums_74 rfl ?_
        refine g_iload X 10 rfl dL_areSums_75 rfl ?_
        refine g_iconst X (z := 3) dL_areSums_77 rfl ?_
        refine k_call X (v := anStream S y 3) (fun Sg => kt_stream l Sg S y 3) (As := [.int (iI y), .int (iI 3)]) (rest := []) rfl ca_X5_stream rfl wm_L_15 wi_X5_stream ws_X5_stream wc_X5_stream ⟨by decide, by decide⟩ (by decide) ⟨by decide, by decide⟩ rfl dL_areSums_78 rfl hO_56 ⟨hW, ⟨by omega, by omega⟩, ⟨by decide, by decide⟩⟩ rfl (fun M_61 hO_60 => ?_)
        refine g_istore X (lv' := [(11, .int (iI (anStream S y 3))), (0, .ref o), (1, .int (iI a1)), (2, .int (iI a2)), (3, .int (iI a3)), (4, .int (iI a4)), (5, .int (iI 0)), (6, .int (iI 0)), (7, .int (iI 0)), (8, .int (iI 0)), (9, .int (iI 1)), (10, .int (iI y))]) (by decide) rfl dL_areSums_81 rfl ?_
        refine g_iload_n X 2 rfl dL_areSums_83 rfl ?_
        refine g_iload X 0 rfl dL_areSums_84 rfl ?_
        refine g_iadd X dL_areSums_86 rfl ?_
        refine g_istore_n X (lv' := [(1, .int (iI (a1 + anStream S y 3))), (11, .int (iI (anStream S y 3))), (0, .ref o), (2, .int (iI a2)), (3, .int (iI a3)), (4, .int (iI a4)), (5, .int (iI 0)), (6, .int (iI 0)), (7, .int (iI 0)), (8, .int (iI 0)), (9, .int (iI 1)), (10, .int (iI y))]) (by decide) rfl dL_areSums_87 rfl ?_
        refine g_iload_n X 3 rfl dL_areSums_88 rfl ?_
        refine g_aload_n X 2 rfl dL_areSums_89 rfl ?_
        refine g_iload X 11 rfl dL_areSums_90 rfl ?_
        refine g_iconst X (z := 2) dL_areSums_92 rfl ?_
        refine k_call X (v := anStream S y 2) (fun Sg => kt_stream l Sg S y 2) (As := [.int (iI y), .int (iI 2)]) (rest := [.int (iI a2)]) rfl ca_X5_stream rfl wm_L_15 wi_X5_stream ws_X5_stream wc_X5_stream ⟨by decide, by decide⟩ (Nat.le_of_ble_eq_true rfl) ⟨by decide, by decide⟩ rfl dL_areSums_93 rfl hO_60 ⟨hW, ⟨by omega, by omega⟩, ⟨by decide, by decide⟩⟩ rfl (fun M_63 hO_62 => ?_)
        refine g_iload X 1 rfl dL_areSums_96 rfl ?_
        refine g_isub X dL_areSums_98 rfl ?_
        refine g_iadd X dL_areSums_99 rfl ?_
        refine g_istore_n X (lv' := [(2, .int (iI (a2 + (anStream S y 2 - anStream S y 3)))), (1, .int (iI (a1 + anStream S y 3))), (11, .int (iI (anStream S y 3))), (0, .ref o), (3, .int (iI a3)), (4, .int (iI a4)), (5, .int (iI 0)), (6, .int (iI 0)), (7, .int (iI 0)), (8, .int (iI 0)), (9, .int (iI 1)), (10, .int (iI y))]) (by decide) rfl dL_areSums_100 rfl ?_
        refine g_iload_n X 4 rfl dL_areSums_101 rfl ?_
        refine g_aload_n X 3 rfl dL_areSums_102 rfl ?_
        refine g_iload X 11 rfl dL_areSums_103 rfl ?_
        refine g_iconst X (z := 5) dL_areSums_105 rfl ?_
        refine k_call X (v := anStream S y 5) (fun Sg => kt_stream l Sg S y 5) (As := [.int (iI y), .int (iI 5)]) (rest := [.int (iI a3)]) rfl ca_X5_stream rfl wm_L_15 wi_X5_stream ws_X5_stream wc_X5_stream ⟨by decide, by decide⟩ (Nat.le_of_ble_eq_true rfl) ⟨by decide, by decide⟩ rfl dL_areSums_106 rfl hO_62 ⟨hW, ⟨by omega, by omega⟩, ⟨by decide, by decide⟩⟩ rfl (fun M_65 hO_64 => ?_)
        refine g_iadd X dL_areSums_109 rfl ?_
        refine g_istore_n X (lv' := [(3, .int (iI (a3 + anStream S y 5))), (2, .int (iI (a2 + (anStream S y 2 - anStream S y 3)))), (1, .int (iI (a1 + anStream S y 3))), (11, .int (iI (anStream S y 3))), (0, .ref o), (4, .int (iI a4)), (5, .int (iI 0)), (6, .int (iI 0)), (7, .int (iI 0)), (8, .int (iI 0)), (9, .int (iI 1)), (10, .int (iI y))]) (by decide) rfl dL_areSums_110 rfl ?_
        refine g_iload X 5 rfl dL_areSums_111 rfl ?_
        refine g_aload_n X 4 rfl dL_areSums_113 rfl ?_
        refine g_iload X 11 rfl dL_areSums_114 rfl ?_
        refine g_bipush X (z := 6) (by decide +kernel) dL_areSums_116 rfl ?_
        refine k_call X (v := anStream S y 6) (fun Sg => kt_stream l Sg S y 6) (As := [.int (iI y), .int (iI 6)]) (rest := [.int (iI a4)]) rfl ca_X5_stream rfl wm_L_15 wi_X5_stream ws_X5_stream wc_X5_stream ⟨by decide, by decide⟩ (Nat.le_of_ble_eq_true rfl) ⟨by decide, by decide⟩ rfl dL_areSums_118 rfl hO_64 ⟨hW, ⟨by omega, by omega⟩, ⟨by decide, by decide⟩⟩ rfl (fun M_67 hO_66 => ?_)
        refine g_iadd X dL_areSums_121 rfl ?_
        refine g_istore X (lv' := [(4, .int (iI (a4 + anStream S y 6))), (3, .int (iI (a3 + anStream S y 5))), (2, .int (iI (a2 + (anStream S y 2 - anStream S y 3)))), (1, .int (iI (a1 + anStream S y 3))), (11, .int (iI (anStream S y 3))), (0, .ref o), (5, .int (iI 0)), (6, .int (iI 0)), (7, .int (iI 0)), (8, .int (iI 0)), (9, .int (iI 1)), (10, .int (iI y))]) (by decide) rfl dL_areSums_122 rfl ?_
        refine g_iload X 4 rfl dL_areSums_124 rfl ?_
        refine g_if_lt X ⟨by omega, by omega⟩ (tgt := 310) dL_areSums_126 (by decide) rfl (fun h_68 => ?_) (fun h_68 => ?_)
        · exfalso
          omega
        · refine g_iload X 4 rfl dL_areSums_129 rfl ?_
          refine g_aload_n X 5 rfl dL_areSums_131 rfl ?_
          refine g_iload X 11 rfl dL_areSums_132 rfl ?_
          refine g_iconst X (z := 2) dL_areSums_134 rfl ?_
          refine k_call X (v := anStream S y 2) (fun Sg => kt_stream l Sg S y 2) (As := [.int (iI y), .int (iI 2)]) (rest := [.int (iI (anStream S y 3))]) rfl ca_X5_stream rfl wm_L_15 wi_X5_stream ws_X5_stream wc_X5_stream ⟨by decide, by decide⟩ (Nat.le_of_ble_eq_true rfl) ⟨by decide, by decide⟩ rfl dL_areSums_135 rfl hO_66 ⟨hW, ⟨by omega, by omega⟩, ⟨by decide, by decide⟩⟩ rfl (fun M_70 hO_69 => ?_)
          refine g_icmp_gt X ⟨by omega, by omega⟩ ⟨by omega, by omega⟩ (tgt := 310) dL_areSums_138 (by decide) rfl (fun h_71 => ?_) (fun h_71 => ?_)
          · exfalso
            omega
          · refine g_iload X 4 rfl dL_areSums_141 rfl ?_
            refine g_dia X (n := 146) (tgt := 150) (J := 151) (C0 := anStream S y 3 ≠ 0) (fun kt kf => g_if_ne X ⟨by omega, by omega⟩ (tgt := 150) dL_areSums_143 (by decide) rfl kt kf) dL_areSums_146 dL_areSums_147 (by decide) dL_areSums_150 rfl ?_
            refine g_aload_n X 5 rfl dL_areSums_151 rfl ?_
            refine g_iload X 11 rfl dL_areSums_152 rfl ?_
            refine g_iconst X (z := 4) dL_areSums_154 rfl ?_
            refine k_call X (v := anStream S y 4) (fun Sg => kt_stream l Sg S y 4) (As := [.int (iI y), .int (iI 4)]) (rest := [.int (iI (if anStream S y 3 ≠ 0 then 0 else 1))]) rfl ca_X5_stream rfl wm_L_15 wi_X5_stream ws_X5_stream wc_X5_stream ⟨by decide, by decide⟩ (Nat.le_of_ble_eq_true rfl) ⟨by decide, by decide⟩ rfl dL_areSums_155 rfl hO_69 ⟨hW, ⟨by omega, by omega⟩, ⟨by decide, by decide⟩⟩ rfl (fun M_74 hO_73 => ?_)
            refine g_bipush X (z := -6) (by decide +kernel) dL_areSums_158 rfl ?_
            refine g_dia X (n := 163) (tgt := 167) (J := 168) (C0 := anStream S y 4 ≠ (-6)) (fun kt kf => g_icmp_ne X ⟨by omega, by omega⟩ ⟨by omega, by omega⟩ (tgt := 167) dL_areSums_160 (by decide) rfl kt kf) dL_areSums_163 dL_areSums_164 (by decide) dL_areSums_167 rfl ?_
            refine g_icmp_ne X ⟨by omega, by omega⟩ ⟨by omega, by omega⟩ (tgt := 310) dL_areSums_168 (by decide) rfl (fun h_76 => ?_) (fun h_76 => ?_)
            · exfalso
              omega
            · refine g_iload X 4 rfl dL_areSums_171 rfl ?_
              refine g_dia X (n := 176) (tgt := 180) (J := 181) (C0 := anStream S y 3 ≠ 0) (fun kt kf => g_if_ne X ⟨by omega, by omega⟩ (tgt := 180) dL_areSums_173 (by decide) rfl kt kf) dL_areSums_176 dL_areSums_177 (by decide) dL_areSums_180 rfl ?_
              refine g_aload_n X 5 rfl dL_areSums_181 rfl ?_
              refine g_iload X 11 rfl dL_areSums_182 rfl ?_
              refine g_bipush X (z := 7) (by decide +kernel) dL_areSums_184 rfl ?_
              refine k_call X (v := anStream S y 7) (fun Sg => kt_stream l Sg S y 7) (As := [.int (iI y), .int (iI 7)]) (rest := [.int (iI (if anStream S y 3 ≠ 0 then 0 else 1))]) rfl ca_X5_stream rfl wm_L_15 wi_X5_stream ws_X5_stream wc_X5_stream ⟨by decide, by decide⟩ (Nat.le_of_ble_eq_true rfl) ⟨by decide, by decide⟩ rfl dL_areSums_186 rfl hO_73 ⟨hW, ⟨by omega, by omega⟩, ⟨by decide, by decide⟩⟩ rfl (fun M_79 hO_78 => ?_)
              refine g_dia X (n := 192) (tgt := 196) (J := 197) (C0 := anStream S y 7 < 0) (fun kt kf => g_if_lt X ⟨by omega, by omega⟩ (tgt := 196) dL_areSums_189 (by decide) rfl kt kf) dL_areSums_192 dL_areSums_193 (by decide) dL_areSums_196 rfl ?_
              refine g_icmp_ne X ⟨by omega, by omega⟩ ⟨by omega, by omega⟩ (tgt := 310) dL_areSums_197 (by decide) rfl (fun h_81 => ?_) (fun h_81 => ?_)
              · exfalso
                omega
              · refine g_aload_n X 5 rfl dL_areSums_200 rfl ?_
                refine g_iload X 11 rfl dL_areSums_201 rfl ?_
                refine g_bipush X (z := 7) (by decide +kernel) dL_areSums_203 rfl ?_
                refine k_call X (v := anStream S y 7) (fun Sg => kt_stream l Sg S y 7) (As := [.int (iI y), .int (iI 7)]) (rest := []) rfl ca_X5_stream rfl wm_L_15 wi_X5_stream ws_X5_stream wc_X5_stream ⟨by decide, by decide⟩ (by decide) ⟨by decide, by decide⟩ rfl dL_areSums_205 rfl hO_78 ⟨hW, ⟨by omega, by omega⟩, ⟨by decide, by decide⟩⟩ rfl (fun M_83 hO_82 => ?_)
                refine g_aload_n X 5 rfl dL_areSums_208 rfl ?_
                refine g_iconst X (z := 4) dL_areSums_209 rfl ?_
                refine k_call X (v := S.1 4) (fun Sg => kt_count l Sg S 4) (As := [.int (iI 4)]) (rest := [.int (iI (anStream S y 7))]) rfl ca_X5_count rfl wm_L_9 wi_X5_count ws_X5_count wc_X5_count ⟨by decide, by decide⟩ (Nat.le_of_ble_eq_true rfl) ⟨by decide, by decide⟩ rfl dL_areSums_210 rfl hO_82 ⟨hW, ⟨by decide, by decide⟩⟩ (c_low S (by decide)) (fun M_85 hO_84 => ?_)
                refine g_icmp_ge X ⟨by omega, by omega⟩ ⟨by omega, by omega⟩ (tgt := 310) dL_areSums_213 (by decide) rfl (fun h_86 => ?_) (fun h_86 => ?_)
                · exfalso
                  omega
                · refine g_aload_n X 5 rfl dL_areSums_216 rfl ?_
                  refine g_iload X 11 rfl dL_areSums_217 rfl ?_
                  refine g_bipush X (z := 6) (by decide +kernel) dL_areSums_219 rfl ?_
                  refine k_call X (v := anStream S y 6) (fun Sg => kt_stream l Sg S y 6) (As := [.int (iI y), .int (iI 6)]) (rest := []) rfl ca_X5_stream rfl wm_L_15 wi_X5_stream ws_X5_stream wc_X5_stream ⟨by decide, by decide⟩ (by decide) ⟨by decide, by decide⟩ rfl dL_areSums_221 rfl hO_84 ⟨hW, ⟨by omega, by omega⟩, ⟨by decide, by decide⟩⟩ rfl (fun M_88 hO_87 => ?_)
                  refine g_aload_n X 5 rfl dL_areSums_224 rfl ?_
                  refine g_iload X 11 rfl dL_areSums_225 rfl ?_
                  refine g_iconst X (z := 5) dL_areSums_227 rfl ?_
                  refine k_call X (v := anStream S y 5) (fun Sg => kt_stream l Sg S y 5) (As := [.int (iI y), .int (iI 5)]) (rest := [.int (iI (anStream S y 6))]) rfl ca_X5_stream rfl wm_L_15 wi_X5_stream ws_X5_stream wc_X5_stream ⟨by decide, by decide⟩ (Nat.le_of_ble_eq_true rfl) ⟨by decide, by decide⟩ rfl dL_areSums_228 rfl hO_87 ⟨hW, ⟨by omega, by omega⟩, ⟨by decide, by decide⟩⟩ rfl (fun M_90 hO_89 => ?_)
                  refine g_icmp_gt X ⟨by omega, by omega⟩ ⟨by omega, by omega⟩ (tgt := 310) dL_areSums_231 (by decide) rfl (fun h_91 => ?_) (fun h_91 => ?_)
                  · exfalso
                    omega
                  · refine g_aload_n X 5 rfl dL_areSums_234 rfl ?_
                    refine g_iload X 11 rfl dL_areSums_235 rfl ?_
                    refine g_bipush X (z := 8) (by decide +kernel) dL_areSums_237 rfl ?_
                    refine k_call X (v := anStream S y 8) (fun Sg => kt_stream l Sg S y 8) (As := [.int (iI y), .int (iI 8)]) (rest := []) rfl ca_X5_stream rfl wm_L_15 wi_X5_stream ws_X5_stream wc_X5_stream ⟨by decide, by decide⟩ (by decide) ⟨by decide, by decide⟩ rfl dL_areSums_239 rfl hO_89 ⟨hW, ⟨by omega, by omega⟩, ⟨by decide, by decide⟩⟩ rfl (fun M_93 hO_92 => ?_)
                    refine g_iconst X (z := 1) dL_areSums_242 rfl ?_
                    refine g_icmp_lt X ⟨by omega, by omega⟩ ⟨by decide, by decide⟩ (tgt := 310) dL_areSums_243 (by decide) rfl (fun h_94 => ?_) (fun h_94 => ?_)
                    · exfalso
                      omega
                    · refine g_aload_n X 5 rfl dL_areSums_246 rfl ?_
                      refine g_iload X 11 rfl dL_areSums_247 rfl ?_
                      refine g_bipush X (z := 8) (by decide +kernel) dL_areSums_249 rfl ?_
                      refine k_call X (v := anStream S y 8) (fun Sg => kt_stream l Sg S y 8) (As := [.int (iI y), .int (iI 8)]) (rest := []) rfl ca_X5_stream rfl wm_L_15 wi_X5_stream ws_X5_stream wc_X5_stream ⟨by decide, by decide⟩ (by decide) ⟨by decide, by decide⟩ rfl dL_areSums_251 rfl hO_92 ⟨hW, ⟨by omega, by omega⟩, ⟨by decide, by decide⟩⟩ rfl (fun M_96 hO_95 => ?_)
                      refine g_aload_n X 5 rfl dL_areSums_254 rfl ?_
                      refine g_iconst X (z := 2) dL_areSums_255 rfl ?_
                      refine k_call X (v := S.1 2) (fun Sg => kt_count l Sg S 2) (As := [.int (iI 2)]) (rest := [.int (iI (anStream S y 8))]) rfl ca_X5_count rfl wm_L_9 wi_X5_count ws_X5_count wc_X5_count ⟨by decide, by decide⟩ (Nat.le_of_ble_eq_true rfl) ⟨by decide, by decide⟩ rfl dL_areSums_256 rfl hO_95 ⟨hW, ⟨by decide, by decide⟩⟩ (c_low S (by decide)) (fun M_98 hO_97 => ?_)
                      refine g_iconst X (z := 2) dL_areSums_259 rfl ?_
                      refine g_icmp_ne X ⟨by omega, by omega⟩ ⟨by decide, by decide⟩ (tgt := 272) dL_areSums_260 (by decide) rfl (fun h_99 => ?_) (fun h_99 => ?_)
                      · refine g_aload_n X 5 rfl dL_areSums_272 rfl ?_
                        refine g_iconst X (z := 0) dL_areSums_273 rfl ?_
                        refine k_call X (v := S.1 0) (fun Sg => kt_count l Sg S 0) (As := [.int (iI 0)]) (rest := [.int (iI (anStream S y 8))]) rfl ca_X5_count rfl wm_L_9 wi_X5_count ws_X5_count wc_X5_count ⟨by decide, by decide⟩ (Nat.le_of_ble_eq_true rfl) ⟨by decide, by decide⟩ rfl dL_areSums_274 rfl hO_97 ⟨hW, ⟨by decide, by decide⟩⟩ (c_low S (by decide)) (fun M_101 hO_100 => ?_)
                        refine g_icmp_gt X ⟨by omega, by omega⟩ ⟨by omega, by omega⟩ (tgt := 310) dL_areSums_277 (by decide) rfl (fun h_102 => ?_) (fun h_102 => ?_)
                        · exfalso
                          omega
                        · refine g_aload_n X 5 rfl dL_areSums_280 rfl ?_
                          refine g_iload X 11 rfl dL_areSums_281 rfl ?_
                          refine g_iconst X (z := 5) dL_areSums_283 rfl ?_
                          refine k_call X (v := anStream S y 5) (fun Sg => kt_stream l Sg S y 5) (As := [.int (iI y), .int (iI 5)]) (rest := []) rfl ca_X5_stream rfl wm_L_15 wi_X5_stream ws_X5_stream wc_X5_stream ⟨by decide, by decide⟩ (by decide) ⟨by decide, by decide⟩ rfl dL_areSums_284 rfl hO_100 ⟨hW, ⟨by omega, by omega⟩, ⟨by decide, by decide⟩⟩ rfl (fun M_104 hO_103 => ?_)
                          refine g_aload_n X 5 rfl dL_areSums_287 rfl ?_
                          refine g_iload X 11 rfl dL_areSums_288 rfl ?_
                          refine g_iconst X (z := 2) dL_areSums_290 rfl ?_
                          refine k_call X (v := anStream S y 2) (fun Sg => kt_stream l Sg S y 2) (As := [.int (iI y), .int (iI 2)]) (rest := [.int (iI (anStream S y 5))]) rfl ca_X5_stream rfl wm_L_15 wi_X5_stream ws_X5_stream wc_X5_stream ⟨by decide, by decide⟩ (Nat.le_of_ble_eq_true rfl) ⟨by decide, by decide⟩ rfl dL_areSums_291 rfl hO_103 ⟨hW, ⟨by omega, by omega⟩, ⟨by decide, by decide⟩⟩ rfl (fun M_106 hO_105 => ?_)
                          refine g_iadd X dL_areSums_294 rfl ?_
                          refine g_iload X 4 rfl dL_areSums_295 rfl ?_
                          refine g_isub X dL_areSums_297 rfl ?_
                          refine g_aload_n X 5 rfl dL_areSums_298 rfl ?_
                          refine g_iconst X (z := 4) dL_areSums_299 rfl ?_
                          refine k_call X (v := S.1 4) (fun Sg => kt_count l Sg S 4) (As := [.int (iI 4)]) (rest := [.int (iI ((anStream S y 5 + anStream S y 2) - anStream S y 3))]) rfl ca_X5_count rfl wm_L_9 wi_X5_count ws_X5_count wc_X5_count ⟨by decide, by decide⟩ (Nat.le_of_ble_eq_true rfl) ⟨by decide, by decide⟩ rfl dL_areSums_300 rfl hO_105 ⟨hW, ⟨by decide, by decide⟩⟩ (c_low S (by decide)) (fun M_108 hO_107 => ?_)
                          refine g_icmp_gt X ⟨by omega, by omega⟩ ⟨by omega, by omega⟩ (tgt := 310) dL_areSums_303 (by decide) rfl (fun h_109 => ?_) (fun h_109 => ?_)
                          · exfalso
                            omega
                          · refine g_iconst X (z := 1) dL_areSums_306 rfl ?_
                            refine g_goto X (n := 311) dL_areSums_307 (by decide) ?_
                            refine g_istore X (lv' := [(9, .int (iI 1)), (4, .int (iI (a4 + anStream S y 6))), (3, .int (iI (a3 + anStream S y 5))), (2, .int (iI (a2 + (anStream S y 2 - anStream S y 3)))), (1, .int (iI (a1 + anStream S y 3))), (11, .int (iI (anStream S y 3))), (0, .ref o), (5, .int (iI 0)), (6, .int (iI 0)), (7, .int (iI 0)), (8, .int (iI 0)), (10, .int (iI y))]) (by decide) rfl dL_areSums_311 rfl ?_
                            refine g_iinc X (lv' := [(10, .int (iI (y + 1))), (9, .int (iI 1)), (4, .int (iI (a4 + anStream S y 6))), (3, .int (iI (a3 + anStream S y 5))), (2, .int (iI (a2 + (anStream S y 2 - anStream S y 3)))), (1, .int (iI (a1 + anStream S y 3))), (11, .int (iI (anStream S y 3))), (0, .ref o), (5, .int (iI 0)), (6, .int (iI 0)), (7, .int (iI 0)), (8, .int (iI 0))]) 11 rfl (by decide) rfl dL_areSums_313 rfl ?_
                            refine g_goto X (n := 59) dL_areSums_316 (by decide) ?_
                            refine g_lv (lv' := [(0, .ref o), (1, .int (iI (a1 + anStream S y 3))), (2, .int (iI (a2 + (anStream S y 2 - anStream S y 3)))), (3, .int (iI (a3 + anStream S y 5))), (4, .int (iI (a4 + anStream S y 6))), (5, .int (iI 0)), (6, .int (iI 0)), (7, .int (iI 0)), (8, .int (iI 0)), (9, .int (iI 1)), (10, .int (iI (y + 1)))]) [7, 5, 4, 3, 2, 8, 9, 10, 11, 1, 0] rfl ?_
                            exact ih (k + 1) _ _ _ _ _ _ (by omega) (by omega) (by rw [h1, s_low S hi (w := 3) (by decide), hy]; rfl) (by rw [h2, s_low S hi (w := 3) (by decide), s_low S hi (w := 2) (by decide), hy]; simp only [ofS]; rw [ofV7]) (by rw [h3, s_5 S hi, hy]; simp only [ofS]; rw [ofV8]) (by rw [h4, s_6 S hi, hy]; simp only [ofS]; rw [ofV9]) hO_107
                      · refine g_aload_n X 5 rfl dL_areSums_263 rfl ?_
                        refine g_bipush X (z := 11) (by decide +kernel) dL_areSums_264 rfl ?_
                        refine k_call X (v := tGP (S.1 0)) (fun Sg => kt_count l Sg S 11) (As := [.int (iI 11)]) (rest := [.int (iI (anStream S y 8))]) rfl ca_X5_count rfl wm_L_9 wi_X5_count ws_X5_count wc_X5_count ⟨by decide, by decide⟩ (Nat.le_of_ble_eq_true rfl) ⟨by decide, by decide⟩ rfl dL_areSums_266 rfl hO_97 ⟨hW, ⟨by decide, by decide⟩⟩ (c_11 S) (fun M_111 hO_110 => ?_)
                        refine g_goto X (n := 277) dL_areSums_269 (by decide) ?_
                        refine g_icmp_gt X ⟨by omega, by omega⟩ ⟨by omega, by omega⟩ (tgt := 310) dL_areSums_277 (by decide) rfl (fun h_112 => ?_) (fun h_112 => ?_)
                        · exfalso
                          omega
                        · refine g_aload_n X 5 rfl dL_areSums_280 rfl ?_
                          refine g_iload X 11 rfl dL_areSums_281 rfl ?_
                          refine g_iconst X (z := 5) dL_areSums_283 rfl ?_
                          refine k_call X (v := anStream S y 5) (fun Sg => kt_stream l Sg S y 5) (As := [.int (iI y), .int (iI 5)]) (rest := []) rfl ca_X5_stream rfl wm_L_15 wi_X5_stream ws_X5_stream wc_X5_stream ⟨by decide, by decide⟩ (by decide) ⟨by decide, by decide⟩ rfl dL_areSums_284 rfl hO_110 ⟨hW, ⟨by omega, by omega⟩, ⟨by decide, by decide⟩⟩ rfl (fun M_114 hO_113 => ?_)
                          refine g_aload_n X 5 rfl dL_areSums_287 rfl ?_
                          refine g_iload X 11 rfl dL_areSums_288 rfl ?_
                          refine g_iconst X (z := 2) dL_areSums_290 rfl ?_
                          refine k_call X (v := anStream S y 2) (fun Sg => kt_stream l Sg S y 2) (As := [.int (iI y), .int (iI 2)]) (rest := [.int (iI (anStream S y 5))]) rfl ca_X5_stream rfl wm_L_15 wi_X5_stream ws_X5_stream wc_X5_stream ⟨by decide, by decide⟩ (Nat.le_of_ble_eq_true rfl) ⟨by decide, by decide⟩ rfl dL_areSums_291 rfl hO_113 ⟨hW, ⟨by omega, by omega⟩, ⟨by decide, by decide⟩⟩ rfl (fun M_116 hO_115 => ?_)
                          refine g_iadd X dL_areSums_294 rfl ?_
                          refine g_iload X 4 rfl dL_areSums_295 rfl ?_
                          refine g_isub X dL_areSums_297 rfl ?_
                          refine g_aload_n X 5 rfl dL_areSums_298 rfl ?_
                          refine g_iconst X (z := 4) dL_areSums_299 rfl ?_
                          refine k_call X (v := S.1 4) (fun Sg => kt_count l Sg S 4) (As := [.int (iI 4)]) (rest := [.int (iI ((anStream S y 5 + anStream S y 2) - anStream S y 3))]) rfl ca_X5_count rfl wm_L_9 wi_X5_count ws_X5_count wc_X5_count ⟨by decide, by decide⟩ (Nat.le_of_ble_eq_true rfl) ⟨by decide, by decide⟩ rfl dL_areSums_300 rfl hO_115 ⟨hW, ⟨by decide, by decide⟩⟩ (c_low S (by decide)) (fun M_118 hO_117 => ?_)
                          refine g_icmp_gt X ⟨by omega, by omega⟩ ⟨by omega, by omega⟩ (tgt := 310) dL_areSums_303 (by decide) rfl (fun h_119 => ?_) (fun h_119 => ?_)
                          · exfalso
                            omega
                          · refine g_iconst X (z := 1) dL_areSums_306 rfl ?_
                            refine g_goto X (n := 311) dL_areSums_307 (by decide) ?_
                            refine g_istore X (lv' := [(9, .int (iI 1)), (4, .int (iI (a4 + anStream S y 6))), (3, .int (iI (a3 + anStream S y 5))), (2, .int (iI (a2 + (anStream S y 2 - anStream S y 3)))), (1, .int (iI (a1 + anStream S y 3))), (11, .int (iI (anStream S y 3))), (0, .ref o), (5, .int (iI 0)), (6, .int (iI 0)), (7, .int (iI 0)), (8, .int (iI 0)), (10, .int (iI y))]) (by decide) rfl dL_areSums_311 rfl ?_
                            refine g_iinc X (lv' := [(10, .int (iI (y + 1))), (9, .int (iI 1)), (4, .int (iI (a4 + anStream S y 6))), (3, .int (iI (a3 + anStream S y 5))), (2, .int (iI (a2 + (anStream S y 2 - anStream S y 3)))), (1, .int (iI (a1 + anStream S y 3))), (11, .int (iI (anStream S y 3))), (0, .ref o), (5, .int (iI 0)), (6, .int (iI 0)), (7, .int (iI 0)), (8, .int (iI 0))]) 11 rfl (by decide) rfl dL_areSums_313 rfl ?_
                            refine g_goto X (n := 59) dL_areSums_316 (by decide) ?_
                            refine g_lv (lv' := [(0, .ref o), (1, .int (iI (a1 + anStream S y 3))), (2, .int (iI (a2 + (anStream S y 2 - anStream S y 3)))), (3, .int (iI (a3 + anStream S y 5))), (4, .int (iI (a4 + anStream S y 6))), (5, .int (iI 0)), (6, .int (iI 0)), (7, .int (iI 0)), (8, .int (iI 0)), (9, .int (iI 1)), (10, .int (iI (y + 1)))]) [7, 5, 4, 3, 2, 8, 9, 10, 11, 1, 0] rfl ?_
                            exact ih (k + 1) _ _ _ _ _ _ (by omega) (by omega) (by rw [h1, s_low S hi (w := 3) (by decide), hy]; rfl) (by rw [h2, s_low S hi (w := 3) (by decide), s_low S hi (w := 2) (by decide), hy]; simp only [ofS]; rw [ofV7]) (by rw [h3, s_5 S hi, hy]; simp only [ofS]; rw [ofV8]) (by rw [h4, s_6 S hi, hy]; simp only [ofS]; rw [ofV9]) hO_117
  refine g_iconst X (z := 0) dL_areSums_0 rfl ?_
  refine g_istore_n X (lv' := [(1, .int (iI 0)), (0, .ref o)]) (by decide) rfl dL_areSums_1 rfl ?_
  refine g_iconst X (z := 0) dL_areSums_2 rfl ?_
  refine g_istore_n X (lv' := [(2, .int (iI 0)), (1, .int (iI 0)), (0, .ref o)]) (by decide) rfl dL_areSums_3 rfl ?_
  refine g_iconst X (z := 0) dL_areSums_4 rfl ?_
  refine g_istore_n X (lv' := [(3, .int (iI 0)), (2, .int (iI 0)), (1, .int (iI 0)), (0, .ref o)]) (by decide) rfl dL_areSums_5 rfl ?_
  refine g_iconst X (z := 0) dL_areSums_6 rfl ?_
  refine g_istore X (lv' := [(4, .int (iI 0)), (3, .int (iI 0)), (2, .int (iI 0)), (1, .int (iI 0)), (0, .ref o)]) (by decide) rfl dL_areSums_7 rfl ?_
  refine g_iconst X (z := 0) dL_areSums_9 rfl ?_
  refine g_istore X (lv' := [(5, .int (iI 0)), (4, .int (iI 0)), (3, .int (iI 0)), (2, .int (iI 0)), (1, .int (iI 0)), (0, .ref o)]) (by decide) rfl dL_areSums_10 rfl ?_
  refine g_iconst X (z := 0) dL_areSums_12 rfl ?_
  refine g_istore X (lv' := [(6, .int (iI 0)), (5, .int (iI 0)), (4, .int (iI 0)), (3, .int (iI 0)), (2, .int (iI 0)), (1, .int (iI 0)), (0, .ref o)]) (by decide) rfl dL_areSums_13 rfl ?_
  refine g_iconst X (z := 0) dL_areSums_15 rfl ?_
  refine g_istore X (lv' := [(7, .int (iI 0)), (6, .int (iI 0)), (5, .int (iI 0)), (4, .int (iI 0)), (3, .int (iI 0)), (2, .int (iI 0)), (1, .int (iI 0)), (0, .ref o)]) (by decide) rfl dL_areSums_16 rfl ?_
  refine g_iconst X (z := 0) dL_areSums_18 rfl ?_
  refine g_istore X (lv' := [(8, .int (iI 0)), (7, .int (iI 0)), (6, .int (iI 0)), (5, .int (iI 0)), (4, .int (iI 0)), (3, .int (iI 0)), (2, .int (iI 0)), (1, .int (iI 0)), (0, .ref o)]) (by decide) rfl dL_areSums_19 rfl ?_
  refine g_aload_n X 8 rfl dL_areSums_21 rfl ?_
  refine g_aload_n X 8 rfl dL_areSums_22 rfl ?_
  refine g_iconst X (z := 5) dL_areSums_23 rfl ?_
  refine k_call X (v := S.1 5) (fun Sg => kt_count l Sg S 5) (As := [.int (iI 5)]) (rest := [.ref o]) rfl ca_X5_count rfl wm_L_9 wi_X5_count ws_X5_count wc_X5_count ⟨by decide, by decide⟩ (Nat.le_of_ble_eq_true rfl) ⟨by decide, by decide⟩ rfl dL_areSums_24 rfl hO ⟨hW, ⟨by decide, by decide⟩⟩ (c_low S (by decide)) (fun M_121 hO_120 => ?_)
  refine g_iconst X (z := 0) dL_areSums_27 rfl ?_
  refine k_call X (v := -1) (fun Sg => kt_stream l Sg S (S.1 5) 0) (As := [.int (iI (S.1 5)), .int (iI 0)]) (rest := []) rfl ca_X5_stream rfl wm_L_15 wi_X5_stream ws_X5_stream wc_X5_stream ⟨by decide, by decide⟩ (by decide) ⟨by decide, by decide⟩ rfl dL_areSums_28 rfl hO_120 ⟨hW, ⟨by omega, by omega⟩, ⟨by decide, by decide⟩⟩ (s_no S (by omega)) (fun M_123 hO_122 => ?_)
  refine g_iconst X (z := -1) dL_areSums_31 rfl ?_
  refine g_icmp_ne X ⟨by decide, by decide⟩ ⟨by omega, by omega⟩ (tgt := 53) dL_areSums_32 (by decide) rfl (fun h_124 => ?_) (fun h_124 => ?_)
  · exfalso
    omega
  · refine g_aload_n X 8 rfl dL_areSums_35 rfl ?_
    refine g_aload_n X 8 rfl dL_areSums_36 rfl ?_
    refine g_iconst X (z := 0) dL_areSums_37 rfl ?_
    refine k_call X (v := S.1 0) (fun Sg => kt_count l Sg S 0) (As := [.int (iI 0)]) (rest := [.ref o]) rfl ca_X5_count rfl wm_L_9 wi_X5_count ws_X5_count wc_X5_count ⟨by decide, by decide⟩ (Nat.le_of_ble_eq_true rfl) ⟨by decide, by decide⟩ rfl dL_areSums_38 rfl hO_122 ⟨hW, ⟨by decide, by decide⟩⟩ (c_low S (by decide)) (fun M_126 hO_125 => ?_)
    refine g_iconst X (z := 0) dL_areSums_41 rfl ?_
    refine k_call X (v := -1) (fun Sg => kt_bank l Sg S (S.1 0) 0) (As := [.int (iI (S.1 0)), .int (iI 0)]) (rest := []) rfl ca_X5_bank rfl wm_L_19 wi_X5_bank ws_X5_bank wc_X5_bank ⟨by decide, by decide⟩ (by decide) ⟨by decide, by decide⟩ rfl dL_areSums_42 rfl hO_125 ⟨hW, ⟨by omega, by omega⟩, ⟨by decide, by decide⟩⟩ (b_no S (by omega)) (fun M_128 hO_127 => ?_)
    refine g_iconst X (z := -1) dL_areSums_45 rfl ?_
    refine g_icmp_ne X ⟨by decide, by decide⟩ ⟨by omega, by omega⟩ (tgt := 53) dL_areSums_46 (by decide) rfl (fun h_129 => ?_) (fun h_129 => ?_)
    · exfalso
      omega
    · refine g_iconst X (z := 1) dL_areSums_49 rfl ?_
      refine g_goto X (n := 54) dL_areSums_50 (by decide) ?_
      refine g_istore X (lv' := [(9, .int (iI 1)), (8, .int (iI 0)), (7, .int (iI 0)), (6, .int (iI 0)), (5, .int (iI 0)), (4, .int (iI 0)), (3, .int (iI 0)), (2, .int (iI 0)), (1, .int (iI 0)), (0, .ref o)]) (by decide) rfl dL_areSums_54 rfl ?_
      refine g_iconst X (z := 0) dL_areSums_56 rfl ?_
      refine g_istore X (lv' := [(10, .int (iI 0)), (9, .int (iI 1)), (8, .int (iI 0)), (7, .int (iI 0)), (6, .int (iI 0)), (5, .int (iI 0)), (4, .int (iI 0)), (3, .int (iI 0)), (2, .int (iI 0)), (1, .int (iI 0)), (0, .ref o)]) (by decide) rfl dL_areSums_57 rfl ?_
      refine g_lv (lv' := [(0, .ref o), (1, .int (iI 0)), (2, .int (iI 0)), (3, .int (iI 0)), (4, .int (iI 0)), (5, .int (iI 0)), (6, .int (iI 0)), (7, .int (iI 0)), (8, .int (iI 0)), (9, .int (iI 1)), (10, .int (iI 0))]) [10, 9, 8, 7, 6, 5, 4, 3, 2, 1, 0] rfl ?_
      exact lp1 (S.1 5).toNat 0 _ _ _ _ _ _ rfl (by omega) rfl rfl rfl rfl hO_127
