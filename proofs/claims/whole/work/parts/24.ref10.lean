/-! the reference: how many banks a stream meets, what a stream tells -/
set_option maxRecDepth 100000 in
set_option maxHeartbeats 4000000 in
theorem ct_X6_meets (l : Launch) (μ : Nat → Nat) (q g : Int → Int) (i : Int) : Ct l yX6_meets cX6_meets 6 (some .int) 3 0 0 (fun ca av L M => av = [.ref (μ 0), .int (iI i)] ∧ MuOk μ L ∧ M (μ 0) = oMd μ q ∧ M (μ 1) = cI ca 110 g ∧ Inv g ∧ 0 ≤ i ∧ i < g 5) (fun ca av L M r L1 M1 => r = some (.int (mtV g i)) ∧ L = L1 ∧ M = M1) := by
  refine Ct_of (own := RX6) (by decide) rfl (by rintro _ _ _ _ ⟨rfl, _⟩; exact Nat.le_of_ble_eq_true rfl) ?_
  rintro p e s m args below meth c D ca A av L M ⟨rfl, hμ, hMo, hMs, hI, hi0, hi1⟩ X hret hname
  refine g_lv (lv' := [(0, .ref (μ 0)), (1, .int (iI i))]) [0, 1] rfl ?_
  generalize hQ : MQ below _ args s _ _ A = Q
  obtain ⟨⟨i00, i01⟩, ⟨i10, i11⟩, ⟨i20, i21⟩, ⟨i30, i31⟩, ⟨i40, i41⟩, i50, i51⟩ := id hI.1
  obtain ⟨⟨r00, r01⟩, ⟨r10, r11⟩, ⟨r20, r21⟩, ⟨r30, r31⟩, ⟨r40, r41⟩, -⟩ := hI.2.2 i hi0 hi1
  have lp2 : ∀ (n : Nat) (k : Nat) (w z : Int32) (y : Int) (hw : w = mtW g i (g (70 + 10 * i + 2)).toNat) (hy : y = k) (hk : y ≤ 16) (hz : z = mtC w k) (hm : 16 - y < (n : Int)), G p l e (Rm 3 0 0) s m args below meth c D A 6 Q 0 0 L M 68 [(0, .ref (μ 0)), (1, .int (iI i)), (2, .int (iI (70 + 10 * i))), (3, .int w), (4, .int z), (5, .int (iI y))] [] := by
    intro n
    induction n with
    | zero =>
      intro k w z y hw hy hk hz hm
      exfalso; omega
    | succ n ih =>
      intro k w z y hw hy hk hz hm
      refine g_iload X 5 rfl dX6_meets_68 rfl ?_
      refine g_bipush X (z := 16) (by decide +kernel) dX6_meets_70 rfl ?_
      refine g_icmp_ge X ⟨by omega, by omega⟩ ⟨by decide, by decide⟩ (tgt := 92) dX6_meets_72 (by decide) rfl (fun h_1 => ?_) (fun h_1 => ?_)
      · refine g_iload X 4 rfl dX6_meets_92 rfl ?_
        subst hQ
        exact g_iret X hret ⟨Nat.le_of_ble_eq_true rfl, Nat.le_of_ble_eq_true rfl⟩ dX6_meets_94 ⟨by rw [hz, mtV, show (16 : Nat) = k from by omega, ← hw], rfl, rfl⟩
      · refine g_iload X 4 rfl dX6_meets_75 rfl ?_
        refine g_iload_n X 3 rfl dX6_meets_77 rfl ?_
        refine g_iload X 5 rfl dX6_meets_78 rfl ?_
        refine g_ishr X (v := (w >>> ((iI y) &&& 31))) rfl dX6_meets_80 rfl ?_
        refine g_iconst X (z := 1) dX6_meets_81 rfl ?_
        refine g_iand X (v := ((w >>> ((iI y) &&& 31)) &&& (iI 1))) rfl dX6_meets_82 rfl ?_
        refine g_iaddr X dX6_meets_83 rfl ?_
        refine g_istore X (lv' := [(4, .int (z + ((w >>> ((iI y) &&& 31)) &&& (iI 1)))), (0, .ref (μ 0)), (1, .int (iI i)), (2, .int (iI (70 + 10 * i))), (3, .int w), (5, .int (iI y))]) (by decide) rfl dX6_meets_84 rfl ?_
        refine g_iinc X (lv' := [(5, .int (iI (y + 1))), (4, .int (z + ((w >>> ((iI y) &&& 31)) &&& (iI 1)))), (0, .ref (μ 0)), (1, .int (iI i)), (2, .int (iI (70 + 10 * i))), (3, .int w)]) 5 rfl (by decide) rfl dX6_meets_86 rfl ?_
        refine g_goto X (n := 68) dX6_meets_89 (by decide) ?_
        refine g_lv (lv' := [(0, .ref (μ 0)), (1, .int (iI i)), (2, .int (iI (70 + 10 * i))), (3, .int w), (4, .int (z + ((w >>> ((iI y) &&& 31)) &&& (iI 1)))), (5, .int (iI (y + 1)))]) [2, 3, 4, 5, 1, 0] rfl ?_
        exact ih (k + 1) _ _ _ hw (by omega) (by omega) (by simp only [mtC]; rw [← hy, hz]; rfl) (by omega)
  have lp1 : ∀ (n : Nat) (k : Nat) (w : Int32) (y : Int) (hy : y = k) (hk : y ≤ g (70 + 10 * i + 2)) (hw : w = mtW g i k) (hm : g (70 + 10 * i + 2) - y < (n : Int)), G p l e (Rm 3 0 0) s m args below meth c D A 6 Q 0 0 L M 10 [(0, .ref (μ 0)), (1, .int (iI i)), (2, .int (iI (70 + 10 * i))), (3, .int w), (4, .int (iI y))] [] := by
    intro n
    induction n with
    | zero =>
      intro k w y hy hk hw hm
      exfalso; omega
    | succ n ih =>
      intro k w y hy hk hw hm
      refine g_iload X 4 rfl dX6_meets_10 rfl ?_
      refine g_aload_n X 0 rfl dX6_meets_12 rfl ?_
      refine g_get X cl_X6 0 (by decide) wf_X6_7 rfl (hμ.mem 0 (by decide)) hMo rfl dX6_meets_13 rfl ?_
      refine g_iload_n X 2 rfl dX6_meets_16 rfl ?_
      refine g_iconst X (z := 2) dX6_meets_17 rfl ?_
      refine g_iadd X dX6_meets_18 rfl ?_
      refine g_iald X (hμ.mem 1 (by decide)) hMs ⟨by omega, by omega⟩ (by decide) dX6_meets_19 rfl ?_
      refine g_icmp_ge X ⟨by omega, by omega⟩ ⟨by omega, by omega⟩ (tgt := 62) dX6_meets_20 (by decide) rfl (fun h_2 => ?_) (fun h_2 => ?_)
      · refine g_iconst X (z := 0) dX6_meets_62 rfl ?_
        refine g_istore X (lv' := [(4, .int (iI 0)), (0, .ref (μ 0)), (1, .int (iI i)), (2, .int (iI (70 + 10 * i))), (3, .int w)]) (by decide) rfl dX6_meets_63 rfl ?_
        refine g_iconst X (z := 0) dX6_meets_65 rfl ?_
        refine g_istore X (lv' := [(5, .int (iI 0)), (4, .int (iI 0)), (0, .ref (μ 0)), (1, .int (iI i)), (2, .int (iI (70 + 10 * i))), (3, .int w)]) (by decide) rfl dX6_meets_66 rfl ?_
        refine g_lv (lv' := [(0, .ref (μ 0)), (1, .int (iI i)), (2, .int (iI (70 + 10 * i))), (3, .int w), (4, .int (iI 0)), (5, .int (iI 0))]) [2, 3, 4, 5, 1, 0] rfl ?_
        exact lp2 20 0 _ _ _ (by rw [hw, show (g (70 + 10 * i + 2)).toNat = k from by omega]) rfl (by decide) (by rfl) (by decide)
      · refine g_iload_n X 3 rfl dX6_meets_23 rfl ?_
        refine g_iconst X (z := 1) dX6_meets_24 rfl ?_
        refine g_aload_n X 0 rfl dX6_meets_25 rfl ?_
        refine g_aload_n X 0 rfl dX6_meets_26 rfl ?_
        refine g_get X cl_X6 0 (by decide) wf_X6_7 rfl (hμ.mem 0 (by decide)) hMo rfl dX6_meets_27 rfl ?_
        refine g_iload_n X 2 rfl dX6_meets_30 rfl ?_
        refine g_iconst X (z := 0) dX6_meets_31 rfl ?_
        refine g_iadd X dX6_meets_32 rfl ?_
        refine g_st (st' := [.int (iI (70 + 10 * i)), .ref (μ 1), .ref (μ 0), .int (iI 1), .int w]) (by rw [Int.add_zero]) ?_
        refine g_iald X (hμ.mem 1 (by decide)) hMs ⟨by omega, by omega⟩ (by decide) dX6_meets_33 rfl ?_
        refine g_iload X 4 rfl dX6_meets_34 rfl ?_
        refine g_aload_n X 0 rfl dX6_meets_36 rfl ?_
        refine g_get X cl_X6 0 (by decide) wf_X6_7 rfl (hμ.mem 0 (by decide)) hMo rfl dX6_meets_37 rfl ?_
        refine g_iload_n X 2 rfl dX6_meets_40 rfl ?_
        refine g_iconst X (z := 1) dX6_meets_41 rfl ?_
        refine g_iadd X dX6_meets_42 rfl ?_
        refine g_iald X (hμ.mem 1 (by decide)) hMs ⟨by omega, by omega⟩ (by decide) dX6_meets_43 rfl ?_
        have p0 := Int.mul_nonneg (show 0 ≤ y by omega) r10
        have p1 : y * g (70 + 10 * i + 1) ≤ 200 * 1023 := Int.mul_le_mul (by omega) (by omega) r10 (by decide)
        refine g_imul X dX6_meets_44 rfl ?_
        refine g_iadd X dX6_meets_45 rfl ?_
        refine g_sipush X (z := 4096) (by decide +kernel) dX6_meets_46 rfl ?_
        refine g_irem X ⟨⟨by omega, by omega⟩, by omega, by omega⟩ dX6_meets_49 rfl ?_
        have q0 := Int.emod_nonneg (g (70 + 10 * i) + y * g (70 + 10 * i + 1)) (by decide : (4096 : Int) ≠ 0)
        have q1 := Int.emod_lt_of_pos (g (70 + 10 * i) + y * g (70 + 10 * i + 1)) (by decide : (0 : Int) < 4096)
        refine g_callV X (ct_X6_bankAt l μ q g ((g (70 + 10 * i) + (y * g ((70 + 10 * i) + 1))) % 4096)) (As := [.int (iI ((g (70 + 10 * i) + (y * g ((70 + 10 * i) + 1))) % 4096))]) (rest := [.int (iI 1), .int w]) cl_X6 rfl ca_X6_bankAt rfl wm_X6_56 wi_X6_bankAt ws_X6_bankAt wc_X6_bankAt w0_X6 ⟨by decide, by decide⟩ (hμ.mem 0 (by decide)) hMo (Nat.le_of_ble_eq_true rfl) ⟨by decide, by decide⟩ rfl dX6_meets_50 rfl ⟨rfl, hμ, hMo, hMs, hI.1, by omega, by omega⟩ (fun r1 L1 M1 hq => ?_)
        obtain ⟨rfl, rfl, rfl⟩ := hq
        refine g_st (st' := [.int (iI (bkG g ((g (70 + 10 * i) + (y * g ((70 + 10 * i) + 1))) % 4096))), .int (iI 1), .int w]) rfl ?_
        refine g_ishl X (v := ((iI 1) <<< ((iI (bkG g ((g (70 + 10 * i) + (y * g ((70 + 10 * i) + 1))) % 4096))) &&& 31))) rfl dX6_meets_53 rfl ?_
        refine g_ior X (v := (w ||| ((iI 1) <<< ((iI (bkG g ((g (70 + 10 * i) + (y * g ((70 + 10 * i) + 1))) % 4096))) &&& 31)))) rfl dX6_meets_54 rfl ?_
        refine g_istore_n X (lv' := [(3, .int (w ||| ((iI 1) <<< ((iI (bkG g ((g (70 + 10 * i) + (y * g ((70 + 10 * i) + 1))) % 4096))) &&& 31)))), (0, .ref (μ 0)), (1, .int (iI i)), (2, .int (iI (70 + 10 * i))), (4, .int (iI y))]) (by decide) rfl dX6_meets_55 rfl ?_
        refine g_iinc X (lv' := [(4, .int (iI (y + 1))), (3, .int (w ||| ((iI 1) <<< ((iI (bkG g ((g (70 + 10 * i) + (y * g ((70 + 10 * i) + 1))) % 4096))) &&& 31)))), (0, .ref (μ 0)), (1, .int (iI i)), (2, .int (iI (70 + 10 * i)))]) 4 rfl (by decide) rfl dX6_meets_56 rfl ?_
        refine g_goto X (n := 10) dX6_meets_59 (by decide) ?_
        refine g_lv (lv' := [(0, .ref (μ 0)), (1, .int (iI i)), (2, .int (iI (70 + 10 * i))), (3, .int (w ||| ((iI 1) <<< ((iI (bkG g ((g (70 + 10 * i) + (y * g ((70 + 10 * i) + 1))) % 4096))) &&& 31)))), (4, .int (iI (y + 1)))]) [2, 3, 4, 1, 0] rfl ?_
        exact ih (k + 1) _ _ (by omega) (by omega) (by simp only [mtW]; rw [← hy, hw]; rfl) (by omega)
  refine g_iload_n X 1 rfl dX6_meets_0 rfl ?_
  refine g_callS X (ct_X6_m l i) (As := [.int (iI i)]) (rest := []) rfl ca_X6_m rfl wm_X6_52 wt_X6_m wc_X6_m w0_X6 ⟨by decide, by decide⟩ (by decide) ⟨by decide, by decide⟩ rfl dX6_meets_1 rfl ⟨rfl, trivial⟩ (fun r1 L1 M1 hq => ?_)
  obtain ⟨rfl, rfl, rfl⟩ := hq
  refine g_st (st' := [.int (iI (70 + 10 * i))]) rfl ?_
  refine g_istore_n X (lv' := [(2, .int (iI (70 + 10 * i))), (0, .ref (μ 0)), (1, .int (iI i))]) (by decide) rfl dX6_meets_4 rfl ?_
  refine g_iconst X (z := 0) dX6_meets_5 rfl ?_
  refine g_istore_n X (lv' := [(3, .int (iI 0)), (2, .int (iI (70 + 10 * i))), (0, .ref (μ 0)), (1, .int (iI i))]) (by decide) rfl dX6_meets_6 rfl ?_
  refine g_iconst X (z := 0) dX6_meets_7 rfl ?_
  refine g_istore X (lv' := [(4, .int (iI 0)), (3, .int (iI 0)), (2, .int (iI (70 + 10 * i))), (0, .ref (μ 0)), (1, .int (iI i))]) (by decide) rfl dX6_meets_8 rfl ?_
  refine g_lv (lv' := [(0, .ref (μ 0)), (1, .int (iI i)), (2, .int (iI (70 + 10 * i))), (3, .int (iI 0)), (4, .int (iI 0))]) [3, 4, 2, 1, 0] rfl ?_
  exact lp1 300 0 _ _ rfl (by omega) (by rfl) (by omega)
set_option maxRecDepth 100000 in
set_option maxHeartbeats 4000000 in
theorem ct_X6_stream (l : Launch) (μ : Nat → Nat) (q g : Int → Int) (sp tr be sa iz rd pa : Int → Int) (i w : Int) : Ct l yX6_stream cX6_stream 4 (some .int) 4 0 0 (fun ca av L M => av = [.ref (μ 0), .int (iI i), .int (iI w)] ∧ MuOk μ L ∧ M (μ 0) = oMd μ q ∧ M (μ 1) = cI ca 110 g ∧ M (μ 2) = cI ca 110 sp ∧ M (μ 3) = cI ca 110 tr ∧ M (μ 4) = cI ca 660 be ∧ M (μ 5) = cI ca 220 sa ∧ M (μ 6) = cZ ca 2 iz ∧ M (μ 7) = cI ca 33 rd ∧ M (μ 8) = cC ca 60 pa ∧ Inv g ∧ (0 ≤ q 0 ∧ q 0 ≤ 60) ∧ (0 ≤ q 1 ∧ q 1 ≤ 6) ∧ R32 i ∧ R32 w) (fun ca av L M r L1 M1 => r = some (.int (iI (anStream (g, be, sa, iz, pa, q 0, q 1) i w))) ∧ L = L1 ∧ Md ca M1 μ ((g, be, sa, iz, pa, q 0, q 1)) ∧ ∀ b, (∀ i, i < 9 → b ≠ μ i) → M1 b = M b) := by
  refine Ct_of (own := RX6) (by decide) rfl (by rintro _ _ _ _ ⟨rfl, _⟩; exact Nat.le_of_ble_eq_true rfl) ?_
  rintro p e s m args below meth c D ca A av L M ⟨rfl, hμ, hMo, hMs, hM2, hM3, hM4, hM5, hM6, hM7, hM8, hI, hq0, hq1, hi, hw⟩ X hret hname
  refine g_lv (lv' := [(0, .ref (μ 0)), (1, .int (iI i)), (2, .int (iI w))]) [0, 1, 2] rfl ?_
  obtain ⟨⟨i00, i01⟩, ⟨i10, i11⟩, ⟨i20, i21⟩, ⟨i30, i31⟩, ⟨i40, i41⟩, i50, i51⟩ := id hI.1
  refine g_aload_n X 0 rfl dX6_stream_0 rfl ?_
  refine g_iload_n X 1 rfl dX6_stream_1 rfl ?_
  refine g_callV X (ct_X6_isStream l μ q g i) (As := [.int (iI i)]) (rest := []) cl_X6 rfl ca_X6_isStream rfl wm_X6_92 wi_X6_isStream ws_X6_isStream wc_X6_isStream w0_X6 ⟨by decide, by decide⟩ (hμ.mem 0 (by decide)) hMo (by decide) ⟨by decide, by decide⟩ rfl dX6_stream_2 rfl ⟨rfl, hμ, hMo, hMs, hi, by omega, by omega⟩ (fun r1 L1 M1 hq => ?_)
  obtain ⟨rfl, rfl, rfl⟩ := hq
  refine g_st (st' := [.int (iI (if 0 ≤ i ∧ i ≤ g 5 - 1 then 1 else 0))]) rfl ?_
  refine g_if_neb X (tgt := 10) dX6_stream_5 (by decide) rfl (fun h_1 => ?_) (fun h_1 => ?_)
  · refine g_iload_n X 1 rfl dX6_stream_10 rfl ?_
    obtain ⟨⟨r00, r01⟩, ⟨r10, r11⟩, ⟨r20, r21⟩, ⟨r30, r31⟩, ⟨r40, r41⟩, r5⟩ := hI.2.2 i (by omega) (by omega)
    refine g_callS X (ct_X6_m l i) (As := [.int (iI i)]) (rest := []) rfl ca_X6_m rfl wm_X6_52 wt_X6_m wc_X6_m w0_X6 ⟨by decide, by decide⟩ (by decide) ⟨by decide, by decide⟩ rfl dX6_stream_11 rfl ⟨rfl, trivial⟩ (fun r1 L1 M1 hq => ?_)
    obtain ⟨rfl, rfl, rfl⟩ := hq
    refine g_st (st' := [.int (iI (70 + 10 * i))]) rfl ?_
    refine g_istore_n X (lv' := [(3, .int (iI (70 + 10 * i))), (0, .ref (μ 0)), (1, .int (iI i)), (2, .int (iI w))]) (by decide) rfl dX6_stream_14 rfl ?_
    refine g_iload_n X 3 rfl dX6_stream_15 rfl ?_
    by_cases h_2 : 0 ≤ w ∧ w ≤ 8
    · have h_2a : w = 0 ∨ w = 1 ∨ w = 2 ∨ w = 3 ∨ w = 4 ∨ w = 5 ∨ w = 6 ∨ w = 7 ∨ w = 8 := by omega
      rcases h_2a with h_2a | h_2a | h_2a | h_2a | h_2a | h_2a | h_2a | h_2a | h_2a
      · refine g_tsIn X dX6_stream_16 hw 0 h_2a (by decide) (by decide) rfl (by decide : _ = ((68 : Nat) : Int)) ?_
        refine g_aload_n X 1 rfl dX6_stream_68 rfl ?_
        refine g_get X cl_X6 0 (by decide) wf_X6_7 rfl (hμ.mem 0 (by decide)) hMo rfl dX6_stream_69 rfl ?_
        refine g_iload_n X 0 rfl dX6_stream_72 rfl ?_
        refine g_iload_n X 3 rfl dX6_stream_73 rfl ?_
        refine g_iadd X dX6_stream_74 rfl ?_
        refine g_iald X (hμ.mem 1 (by decide)) hMs ⟨by omega, by omega⟩ (by decide) dX6_stream_75 rfl ?_
        exact g_iret X hret ⟨Nat.le_of_ble_eq_true rfl, Nat.le_of_ble_eq_true rfl⟩ dX6_stream_76 ⟨by rw [anStream, if_pos h_1, if_pos (by omega)], rfl, ⟨q, _, _, _, rfl, rfl, hMo, hMs, hM2, hM3, hM4, hM5, hM6, hM7, hM8⟩, (fun b hb => rfl)⟩
      · refine g_tsIn X dX6_stream_16 hw 1 h_2a (by decide) (by decide) rfl (by decide : _ = ((68 : Nat) : Int)) ?_
        refine g_aload_n X 1 rfl dX6_stream_68 rfl ?_
        refine g_get X cl_X6 0 (by decide) wf_X6_7 rfl (hμ.mem 0 (by decide)) hMo rfl dX6_stream_69 rfl ?_
        refine g_iload_n X 0 rfl dX6_stream_72 rfl ?_
        refine g_iload_n X 3 rfl dX6_stream_73 rfl ?_
        refine g_iadd X dX6_stream_74 rfl ?_
        refine g_iald X (hμ.mem 1 (by decide)) hMs ⟨by omega, by omega⟩ (by decide) dX6_stream_75 rfl ?_
        exact g_iret X hret ⟨Nat.le_of_ble_eq_true rfl, Nat.le_of_ble_eq_true rfl⟩ dX6_stream_76 ⟨by rw [anStream, if_pos h_1, if_pos (by omega)], rfl, ⟨q, _, _, _, rfl, rfl, hMo, hMs, hM2, hM3, hM4, hM5, hM6, hM7, hM8⟩, (fun b hb => rfl)⟩
      · refine g_tsIn X dX6_stream_16 hw 2 h_2a (by decide) (by decide) rfl (by decide : _ = ((68 : Nat) : Int)) ?_
        refine g_aload_n X 1 rfl dX6_stream_68 rfl ?_
        refine g_get X cl_X6 0 (by decide) wf_X6_7 rfl (hμ.mem 0 (by decide)) hMo rfl dX6_stream_69 rfl ?_
        refine g_iload_n X 0 rfl dX6_stream_72 rfl ?_
        refine g_iload_n X 3 rfl dX6_stream_73 rfl ?_
        refine g_iadd X dX6_stream_74 rfl ?_
        refine g_iald X (hμ.mem 1 (by decide)) hMs ⟨by omega, by omega⟩ (by decide) dX6_stream_75 rfl ?_
        exact g_iret X hret ⟨Nat.le_of_ble_eq_true rfl, Nat.le_of_ble_eq_true rfl⟩ dX6_stream_76 ⟨by rw [anStream, if_pos h_1, if_pos (by omega)], rfl, ⟨q, _, _, _, rfl, rfl, hMo, hMs, hM2, hM3, hM4, hM5, hM6, hM7, hM8⟩, (fun b hb => rfl)⟩
      · refine g_tsIn X dX6_stream_16 hw 3 h_2a (by decide) (by decide) rfl (by decide : _ = ((68 : Nat) : Int)) ?_
        refine g_aload_n X 1 rfl dX6_stream_68 rfl ?_
        refine g_get X cl_X6 0 (by decide) wf_X6_7 rfl (hμ.mem 0 (by decide)) hMo rfl dX6_stream_69 rfl ?_
        refine g_iload_n X 0 rfl dX6_stream_72 rfl ?_
        refine g_iload_n X 3 rfl dX6_stream_73 rfl ?_
        refine g_iadd X dX6_stream_74 rfl ?_
        refine g_iald X (hμ.mem 1 (by decide)) hMs ⟨by omega, by omega⟩ (by decide) dX6_stream_75 rfl ?_
        exact g_iret X hret ⟨Nat.le_of_ble_eq_true rfl, Nat.le_of_ble_eq_true rfl⟩ dX6_stream_76 ⟨by rw [anStream, if_pos h_1, if_pos (by omega)], rfl, ⟨q, _, _, _, rfl, rfl, hMo, hMs, hM2, hM3, hM4, hM5, hM6, hM7, hM8⟩, (fun b hb => rfl)⟩
      · refine g_tsIn X dX6_stream_16 hw 4 h_2a (by decide) (by decide) rfl (by decide : _ = ((77 : Nat) : Int)) ?_
        refine g_aload_n X 1 rfl dX6_stream_77 rfl ?_
        refine g_get X cl_X6 0 (by decide) wf_X6_7 rfl (hμ.mem 0 (by decide)) hMo rfl dX6_stream_78 rfl ?_
        refine g_iload_n X 0 rfl dX6_stream_81 rfl ?_
        refine g_iconst X (z := 3) dX6_stream_82 rfl ?_
        refine g_iadd X dX6_stream_83 rfl ?_
        refine g_iald X (hμ.mem 1 (by decide)) hMs ⟨by omega, by omega⟩ (by decide) dX6_stream_84 rfl ?_
        refine g_if_ne X ⟨by omega, by omega⟩ (tgt := 93) dX6_stream_85 (by decide) rfl (fun h_3 => ?_) (fun h_3 => ?_)
        · refine g_aload_n X 1 rfl dX6_stream_93 rfl ?_
          refine g_get X cl_X6 0 (by decide) wf_X6_7 rfl (hμ.mem 0 (by decide)) hMo rfl dX6_stream_94 rfl ?_
          refine g_iload_n X 0 rfl dX6_stream_97 rfl ?_
          refine g_iconst X (z := 4) dX6_stream_98 rfl ?_
          refine g_iadd X dX6_stream_99 rfl ?_
          refine g_iald X (hμ.mem 1 (by decide)) hMs ⟨by omega, by omega⟩ (by decide) dX6_stream_100 rfl ?_
          exact g_iret X hret ⟨Nat.le_of_ble_eq_true rfl, Nat.le_of_ble_eq_true rfl⟩ dX6_stream_101 ⟨by rw [anStream, if_pos h_1, if_neg (by omega), if_pos (by omega), if_neg (by first | omega | (dsimp only; omega))], rfl, ⟨q, _, _, _, rfl, rfl, hMo, hMs, hM2, hM3, hM4, hM5, hM6, hM7, hM8⟩, (fun b hb => rfl)⟩
        · refine g_bipush X (z := -6) (by decide +kernel) dX6_stream_88 rfl ?_
          refine g_goto X (n := 101) dX6_stream_90 (by decide) ?_
          exact g_iret X hret ⟨Nat.le_of_ble_eq_true rfl, Nat.le_of_ble_eq_true rfl⟩ dX6_stream_101 ⟨by rw [anStream, if_pos h_1, if_neg (by omega), if_pos (by omega), if_pos (by first | omega | (dsimp only; omega))], rfl, ⟨q, _, _, _, rfl, rfl, hMo, hMs, hM2, hM3, hM4, hM5, hM6, hM7, hM8⟩, (fun b hb => rfl)⟩
      · refine g_tsIn X dX6_stream_16 hw 5 h_2a (by decide) (by decide) rfl (by decide : _ = ((102 : Nat) : Int)) ?_
        refine g_aload_n X 1 rfl dX6_stream_102 rfl ?_
        refine g_get X cl_X6 0 (by decide) wf_X6_7 rfl (hμ.mem 0 (by decide)) hMo rfl dX6_stream_103 rfl ?_
        refine g_iload_n X 0 rfl dX6_stream_106 rfl ?_
        refine g_iload_n X 3 rfl dX6_stream_107 rfl ?_
        refine g_iadd X dX6_stream_108 rfl ?_
        refine g_iconst X (z := 1) dX6_stream_109 rfl ?_
        refine g_iadd X dX6_stream_110 rfl ?_
        refine g_iald X (hμ.mem 1 (by decide)) hMs ⟨by omega, by omega⟩ (by decide) dX6_stream_111 rfl ?_
        exact g_iret X hret ⟨Nat.le_of_ble_eq_true rfl, Nat.le_of_ble_eq_true rfl⟩ dX6_stream_112 ⟨by rw [anStream, if_pos h_1, if_neg (by omega), if_neg (by omega), if_pos (by omega)], rfl, ⟨q, _, _, _, rfl, rfl, hMo, hMs, hM2, hM3, hM4, hM5, hM6, hM7, hM8⟩, (fun b hb => rfl)⟩
      · refine g_tsIn X dX6_stream_16 hw 6 h_2a (by decide) (by decide) rfl (by decide : _ = ((102 : Nat) : Int)) ?_
        refine g_aload_n X 1 rfl dX6_stream_102 rfl ?_
        refine g_get X cl_X6 0 (by decide) wf_X6_7 rfl (hμ.mem 0 (by decide)) hMo rfl dX6_stream_103 rfl ?_
        refine g_iload_n X 0 rfl dX6_stream_106 rfl ?_
        refine g_iload_n X 3 rfl dX6_stream_107 rfl ?_
        refine g_iadd X dX6_stream_108 rfl ?_
        refine g_iconst X (z := 1) dX6_stream_109 rfl ?_
        refine g_iadd X dX6_stream_110 rfl ?_
        refine g_iald X (hμ.mem 1 (by decide)) hMs ⟨by omega, by omega⟩ (by decide) dX6_stream_111 rfl ?_
        exact g_iret X hret ⟨Nat.le_of_ble_eq_true rfl, Nat.le_of_ble_eq_true rfl⟩ dX6_stream_112 ⟨by rw [anStream, if_pos h_1, if_neg (by omega), if_neg (by omega), if_pos (by omega)], rfl, ⟨q, _, _, _, rfl, rfl, hMo, hMs, hM2, hM3, hM4, hM5, hM6, hM7, hM8⟩, (fun b hb => rfl)⟩
      · refine g_tsIn X dX6_stream_16 hw 7 h_2a (by decide) (by decide) rfl (by decide : _ = ((113 : Nat) : Int)) ?_
        refine g_aload_n X 1 rfl dX6_stream_113 rfl ?_
        refine g_get X cl_X6 0 (by decide) wf_X6_7 rfl (hμ.mem 0 (by decide)) hMo rfl dX6_stream_114 rfl ?_
        refine g_iload_n X 0 rfl dX6_stream_117 rfl ?_
        refine g_iconst X (z := 3) dX6_stream_118 rfl ?_
        refine g_iadd X dX6_stream_119 rfl ?_
        refine g_iald X (hμ.mem 1 (by decide)) hMs ⟨by omega, by omega⟩ (by decide) dX6_stream_120 rfl ?_
        refine g_if_ne X ⟨by omega, by omega⟩ (tgt := 136) dX6_stream_121 (by decide) rfl (fun h_4 => ?_) (fun h_4 => ?_)
        · refine g_bipush X (z := -6) (by decide +kernel) dX6_stream_136 rfl ?_
          exact g_iret X hret ⟨Nat.le_of_ble_eq_true rfl, Nat.le_of_ble_eq_true rfl⟩ dX6_stream_138 ⟨by rw [anStream, if_pos h_1, if_neg (by omega), if_neg (by omega), if_neg (by omega), if_pos (by omega), if_neg (by first | omega | (dsimp only; omega))], rfl, ⟨q, _, _, _, rfl, rfl, hMo, hMs, hM2, hM3, hM4, hM5, hM6, hM7, hM8⟩, (fun b hb => rfl)⟩
        · refine g_aload_n X 1 rfl dX6_stream_124 rfl ?_
          refine g_get X cl_X6 0 (by decide) wf_X6_7 rfl (hμ.mem 0 (by decide)) hMo rfl dX6_stream_125 rfl ?_
          refine g_iload_n X 0 rfl dX6_stream_128 rfl ?_
          refine g_bipush X (z := 8) (by decide +kernel) dX6_stream_129 rfl ?_
          refine g_iadd X dX6_stream_131 rfl ?_
          refine g_iald X (hμ.mem 1 (by decide)) hMs ⟨by omega, by omega⟩ (by decide) dX6_stream_132 rfl ?_
          refine g_goto X (n := 138) dX6_stream_133 (by decide) ?_
          exact g_iret X hret ⟨Nat.le_of_ble_eq_true rfl, Nat.le_of_ble_eq_true rfl⟩ dX6_stream_138 ⟨by rw [anStream, if_pos h_1, if_neg (by omega), if_neg (by omega), if_neg (by omega), if_pos (by omega), if_pos (by first | omega | (dsimp only; omega))], rfl, ⟨q, _, _, _, rfl, rfl, hMo, hMs, hM2, hM3, hM4, hM5, hM6, hM7, hM8⟩, (fun b hb => rfl)⟩
      · refine g_tsIn X dX6_stream_16 hw 8 h_2a (by decide) (by decide) rfl (by decide : _ = ((139 : Nat) : Int)) ?_
        refine g_aload_n X 1 rfl dX6_stream_139 rfl ?_
        refine g_iload_n X 2 rfl dX6_stream_140 rfl ?_
        refine g_callV X (ct_X6_meets l μ q g i) (As := [.int (iI i)]) (rest := []) cl_X6 rfl ca_X6_meets rfl wm_X6_123 wi_X6_meets ws_X6_meets wc_X6_meets w0_X6 ⟨by decide, by decide⟩ (hμ.mem 0 (by decide)) hMo (by decide) ⟨by decide, by decide⟩ rfl dX6_stream_141 rfl ⟨rfl, hμ, hMo, hMs, hI, by omega, by omega⟩ (fun r1 L1 M1 hq => ?_)
        obtain ⟨rfl, rfl, rfl⟩ := hq
        refine g_st (st' := [.int (mtV g i)]) rfl ?_
        exact g_iret X hret ⟨Nat.le_of_ble_eq_true rfl, Nat.le_of_ble_eq_true rfl⟩ dX6_stream_144 ⟨by rw [anStream, if_pos h_1, if_neg (by omega), if_neg (by omega), if_neg (by omega), if_neg (by omega), if_pos (by omega), iI_self], rfl, ⟨q, _, _, _, rfl, rfl, hMo, hMs, hM2, hM3, hM4, hM5, hM6, hM7, hM8⟩, (fun b hb => rfl)⟩
    · refine g_tsOut X dX6_stream_16 hw (by omega) (by decide : _ = ((145 : Nat) : Int)) ?_
      refine g_bipush X (z := -2) (by decide +kernel) dX6_stream_145 rfl ?_
      exact g_iret X hret ⟨Nat.le_of_ble_eq_true rfl, Nat.le_of_ble_eq_true rfl⟩ dX6_stream_147 ⟨by rw [anStream, if_pos h_1, if_neg (by omega), if_neg (by omega), if_neg (by omega), if_neg (by omega), if_neg (by omega)], rfl, ⟨q, _, _, _, rfl, rfl, hMo, hMs, hM2, hM3, hM4, hM5, hM6, hM7, hM8⟩, (fun b hb => rfl)⟩
  · refine g_iconst X (z := -1) dX6_stream_8 rfl ?_
    exact g_iret X hret ⟨Nat.le_of_ble_eq_true rfl, Nat.le_of_ble_eq_true rfl⟩ dX6_stream_9 ⟨by rw [anStream, if_neg h_1], rfl, ⟨q, _, _, _, rfl, rfl, hMo, hMs, hM2, hM3, hM4, hM5, hM6, hM7, hM8⟩, (fun b hb => rfl)⟩
