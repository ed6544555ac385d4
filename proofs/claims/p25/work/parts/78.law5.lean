/-! ===== the law's acts ===== -/
set_option maxRecDepth 100000 in
set_option maxHeartbeats 4000000 in
theorem ct_L_acts (l : Launch) (o : Nat) (S : AS) (T x : Int) : Ct l yL_acts cL_acts 27 (some .boolean) 8 0 0 (fun ca av L M => av = [.ref o, .int (iI x)] ∧ OB ca L M o S ∧ PA T S ∧ 0 ≤ T ∧ T ≤ 90000 ∧ 0 ≤ x ∧ x < 2147483648) (fun ca av L M r L1 M1 => r = some (.int (iI 1)) ∧ L = L1 ∧ ∃ S2 : AS, OB ca L1 M1 o S2 ∧ PA (T + 60) S2 ∧ KS S S2) := by
  refine Ct_of (own := RL) (by decide) rfl (by rintro _ _ _ _ ⟨rfl, _⟩; exact Nat.le_of_ble_eq_true rfl) ?_
  rintro p e s m args below meth c D ca A av L M ⟨rfl, hO, hPA, hT0, hT1, x0, x1⟩ X hret hname
  refine g_lv (lv' := [(0, .ref o), (1, .int (iI x))]) [0, 1] rfl ?_
  generalize hQ : MQ below _ args s _ _ A = Q
  have hW := hPA.1
  have hI := hPA.I
  obtain ⟨⟨s00, s01⟩, ⟨s10, s11⟩, ⟨s20, s21⟩, ⟨s30, s31⟩, ⟨s40, s41⟩, s50, s51⟩ := id hPA.S
  have hpr := tGP_rng s00 s01
  have kk : ∀ (pc2 : Nat) (lv2 : List (Nat × Value)) (M2 : Mem) (S2 : AS), decode cL_acts pc2 = .ok (.ireturn, 1) → OB ca L M2 o S2 → PA (T + 60) S2 → KS S S2 → G p l e (Rm 8 0 0) s m args below meth c D A 27 Q 0 0 L M2 pc2 lv2 [.int (iI 1)] := fun pc2 lv2 M2 S2 d h1 h2 h3 => by
    subst hQ
    exact g_zret X hret (by rfl) ⟨Nat.le_of_ble_eq_true rfl, Nat.le_of_ble_eq_true rfl⟩ d ⟨rfl, rfl, S2, h1, h2, h3⟩
  have tail : ∀ (i : Int) (M2 : Mem), (S.1 5 = 0 ∧ i = 0) ∨ (0 ≤ i ∧ i < S.1 5) → OB ca L M2 o S → G p l e (Rm 8 0 0) s m args below meth c D A 27 Q 0 0 L M2 20 [(0, .ref o), (1, .int (iI x)), (2, .int (iI (S.1 5))), (3, .int (iI i))] [] := fun i M2 hi hO2 => by
    refine g_iload_n X 1 rfl dL_acts_20 rfl ?_
    refine g_bipush X (z := 9) (by decide +kernel) dL_acts_21 rfl ?_
    refine g_irem X ⟨⟨by omega, by omega⟩, by omega, by omega⟩ dL_acts_23 rfl ?_
    by_cases h_1 : 0 ≤ x % 9 ∧ x % 9 ≤ 7
    · have h_1a : x % 9 = 0 ∨ x % 9 = 1 ∨ x % 9 = 2 ∨ x % 9 = 3 ∨ x % 9 = 4 ∨ x % 9 = 5 ∨ x % 9 = 6 ∨ x % 9 = 7 := by omega
      rcases h_1a with h_1a | h_1a | h_1a | h_1a | h_1a | h_1a | h_1a | h_1a
      · refine g_tsIn X dL_acts_24 ⟨by omega, by omega⟩ 0 h_1a (by decide) (by decide) rfl (by decide : _ = ((72 : Nat) : Int)) ?_
        exact acts_72 X hO2 hPA ⟨hT0, hT1⟩ x0 x1 hi kk
      · refine g_tsIn X dL_acts_24 ⟨by omega, by omega⟩ 1 h_1a (by decide) (by decide) rfl (by decide : _ = ((72 : Nat) : Int)) ?_
        exact acts_72 X hO2 hPA ⟨hT0, hT1⟩ x0 x1 hi kk
      · refine g_tsIn X dL_acts_24 ⟨by omega, by omega⟩ 2 h_1a (by decide) (by decide) rfl (by decide : _ = ((197 : Nat) : Int)) ?_
        exact acts_197 X hO2 hPA ⟨hT0, hT1⟩ x0 x1 hi kk
      · refine g_tsIn X dL_acts_24 ⟨by omega, by omega⟩ 3 h_1a (by decide) (by decide) rfl (by decide : _ = ((197 : Nat) : Int)) ?_
        exact acts_197 X hO2 hPA ⟨hT0, hT1⟩ x0 x1 hi kk
      · refine g_tsIn X dL_acts_24 ⟨by omega, by omega⟩ 4 h_1a (by decide) (by decide) rfl (by decide : _ = ((197 : Nat) : Int)) ?_
        exact acts_197 X hO2 hPA ⟨hT0, hT1⟩ x0 x1 hi kk
      · refine g_tsIn X dL_acts_24 ⟨by omega, by omega⟩ 5 h_1a (by decide) (by decide) rfl (by decide : _ = ((272 : Nat) : Int)) ?_
        exact acts_272 X hO2 hPA ⟨hT0, hT1⟩ x0 x1 hi kk
      · refine g_tsIn X dL_acts_24 ⟨by omega, by omega⟩ 6 h_1a (by decide) (by decide) rfl (by decide : _ = ((348 : Nat) : Int)) ?_
        exact acts_348 X hO2 hPA ⟨hT0, hT1⟩ x0 x1 hi kk
      · refine g_tsIn X dL_acts_24 ⟨by omega, by omega⟩ 7 h_1a (by decide) (by decide) rfl (by decide : _ = ((505 : Nat) : Int)) ?_
        exact acts_505 X hO2 hPA ⟨hT0, hT1⟩ x0 x1 hi kk
    · refine g_tsOut X dL_acts_24 ⟨by omega, by omega⟩ (by omega) (by decide : _ = ((643 : Nat) : Int)) ?_
      exact acts_643 X hO2 hPA ⟨hT0, hT1⟩ x0 x1 hi kk
  refine g_aload_n X 0 rfl dL_acts_0 rfl ?_
  refine g_iconst X (z := 5) dL_acts_1 rfl ?_
  refine k_call X (v := S.1 5) (fun Sg => kt_count l Sg S 5) (As := [.int (iI 5)]) (rest := []) rfl ca_X5_count rfl wm_L_9 wi_X5_count ws_X5_count wc_X5_count ⟨by decide, by decide⟩ (by decide) ⟨by decide, by decide⟩ rfl dL_acts_2 rfl hO ⟨hW, ⟨by decide, by decide⟩⟩ (c_low S (by decide)) (fun M_2 hO_1 => ?_)
  refine g_istore_n X (lv' := [(2, .int (iI (S.1 5))), (0, .ref o), (1, .int (iI x))]) (by decide) rfl dL_acts_5 rfl ?_
  refine g_iload_n X 0 rfl dL_acts_6 rfl ?_
  refine g_if_ne X ⟨by omega, by omega⟩ (tgt := 14) dL_acts_7 (by decide) rfl (fun h_3 => ?_) (fun h_3 => ?_)
  · refine g_iload_n X 2 rfl dL_acts_14 rfl ?_
    refine g_iconst X (z := 4) dL_acts_15 rfl ?_
    refine g_ishr X (sh_4 x0 x1) dL_acts_16 rfl ?_
    refine g_iload_n X 0 rfl dL_acts_17 rfl ?_
    refine g_irem X ⟨⟨by omega, by omega⟩, by omega, by omega⟩ dL_acts_18 rfl ?_
    refine g_istore_n X (lv' := [(3, .int (iI ((x / 16) % S.1 5))), (2, .int (iI (S.1 5))), (0, .ref o), (1, .int (iI x))]) (by decide) rfl dL_acts_19 rfl ?_
    refine g_lv (lv' := [(0, .ref o), (1, .int (iI x)), (2, .int (iI (S.1 5))), (3, .int (iI ((x / 16) % S.1 5)))]) [2, 3, 1, 0] rfl ?_
    exact tail _ _ (Or.inr ⟨Int.emod_nonneg _ (by omega), Int.emod_lt_of_pos _ (by omega)⟩) hO_1
  · refine g_iconst X (z := 0) dL_acts_10 rfl ?_
    refine g_goto X (n := 19) dL_acts_11 (by decide) ?_
    refine g_istore_n X (lv' := [(3, .int (iI 0)), (2, .int (iI (S.1 5))), (0, .ref o), (1, .int (iI x))]) (by decide) rfl dL_acts_19 rfl ?_
    refine g_lv (lv' := [(0, .ref o), (1, .int (iI x)), (2, .int (iI (S.1 5))), (3, .int (iI 0))]) [2, 3, 1, 0] rfl ?_
    exact tail _ _ (Or.inl ⟨by omega, rfl⟩) hO_1
